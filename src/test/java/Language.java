import com.sun.source.tree.ArrayTypeTree;
import com.sun.source.tree.BinaryTree;
import com.sun.source.tree.BlockTree;
import com.sun.source.tree.ClassTree;
import com.sun.source.tree.CompilationUnitTree;
import com.sun.source.tree.CompoundAssignmentTree;
import com.sun.source.tree.DoWhileLoopTree;
import com.sun.source.tree.ExpressionTree;
import com.sun.source.tree.ForLoopTree;
import com.sun.source.tree.IdentifierTree;
import com.sun.source.tree.ImportTree;
import com.sun.source.tree.LiteralTree;
import com.sun.source.tree.MemberSelectTree;
import com.sun.source.tree.MethodInvocationTree;
import com.sun.source.tree.MethodTree;
import com.sun.source.tree.NewArrayTree;
import com.sun.source.tree.NewClassTree;
import com.sun.source.tree.ThrowTree;
import com.sun.source.tree.Tree;
import com.sun.source.tree.TypeCastTree;
import com.sun.source.tree.VariableTree;
import com.sun.source.tree.WhileLoopTree;
import com.sun.source.util.JavacTask;
import com.sun.source.util.TreePath;
import com.sun.source.util.TreePathScanner;
import com.sun.source.util.Trees;
import java.io.IOException;
import java.net.URI;
import java.util.ArrayList;
import java.util.LinkedHashMap;
import java.util.LinkedHashSet;
import java.util.List;
import java.util.Map;
import java.util.Set;
import java.util.stream.Stream;
import javax.lang.model.element.Element;
import javax.lang.model.element.ElementKind;
import javax.lang.model.element.ExecutableElement;
import javax.lang.model.element.Modifier;
import javax.lang.model.element.TypeElement;
import javax.lang.model.element.VariableElement;
import javax.lang.model.type.ArrayType;
import javax.lang.model.type.DeclaredType;
import javax.lang.model.type.TypeKind;
import javax.lang.model.type.TypeMirror;
import javax.tools.Diagnostic;
import javax.tools.DiagnosticCollector;
import javax.tools.JavaCompiler;
import javax.tools.JavaFileObject;
import javax.tools.SimpleJavaFileObject;
import javax.tools.ToolProvider;

/**
 * Tells where a source goes outside LANGUAGE.md, each with its rule's number. It allows less than
 * the rules do: what the class has no use for is refused (if it comes to have one, allow it here),
 * so that no more than what it uses need be looked at. Whether a call may throw by itself, and
 * whether a loop ends, cannot be told from the source alone: see the tests that run the calls.
 */
final class Language extends TreePathScanner<Void, Void> {
  private static final int MOST_CLASSES = 12;
  private static final int MOST_FIELDS = 20;
  private static final int MOST_PARAMETERS = 7;
  private static final int MOST_LINES = 60;
  private static final int MOST_DEEP = 8;

  // By name, since the kind of a "default:" is one that javac 17 warns of.
  private static final Set<String> ALLOWED =
      Set.of(
          "COMPILATION_UNIT", "IMPORT", "CLASS", "METHOD", "VARIABLE", "MODIFIERS", "BLOCK",
          "PRIMITIVE_TYPE", "ARRAY_TYPE", "IDENTIFIER", "MEMBER_SELECT", "ARRAY_ACCESS",
          "NEW_ARRAY", "NEW_CLASS", "METHOD_INVOCATION", "PARENTHESIZED", "TYPE_CAST",
          "CONDITIONAL_EXPRESSION", "EXPRESSION_STATEMENT", "EMPTY_STATEMENT", "IF", "FOR_LOOP",
          "WHILE_LOOP", "DO_WHILE_LOOP", "SWITCH", "CASE", "DEFAULT_CASE_LABEL", "BREAK",
          "CONTINUE", "RETURN", "THROW", "ASSIGNMENT", "PLUS_ASSIGNMENT", "MINUS_ASSIGNMENT",
          "PLUS", "MINUS", "MULTIPLY", "DIVIDE", "UNARY_MINUS", "POSTFIX_INCREMENT",
          "POSTFIX_DECREMENT", "PREFIX_INCREMENT", "PREFIX_DECREMENT", "EQUAL_TO",
          "NOT_EQUAL_TO", "LESS_THAN", "LESS_THAN_EQUAL", "GREATER_THAN", "GREATER_THAN_EQUAL",
          "CONDITIONAL_AND", "CONDITIONAL_OR", "LOGICAL_COMPLEMENT", "INT_LITERAL",
          "LONG_LITERAL", "DOUBLE_LITERAL", "BOOLEAN_LITERAL", "CHAR_LITERAL", "STRING_LITERAL",
          "NULL_LITERAL");

  private static final Set<String> IMPORTS = Set.of("java.util.NoSuchElementException");

  private static final Set<String> THROWN =
      Set.of(
          "java.lang.IllegalStateException", "java.lang.IllegalArgumentException",
          "java.lang.IndexOutOfBoundsException", "java.lang.ArithmeticException",
          "java.lang.UnsupportedOperationException", "java.util.NoSuchElementException",
          "java.lang.RuntimeException");

  private static final Set<String> LIBRARY =
      Set.of("java.lang.System.arraycopy", "java.lang.Math.max", "java.lang.Math.min");

  private final Trees trees;
  private final CompilationUnitTree unit;
  private final List<String> faults = new ArrayList<>();
  private final Map<ExecutableElement, Set<ExecutableElement>> calls = new LinkedHashMap<>();

  private ExecutableElement method;
  private int loops;
  private int classes;

  private Language(Trees trees, CompilationUnitTree unit) {
    this.trees = trees;
    this.unit = unit;
  }

  /** All faults of the source of a class, none if it keeps to the rules. */
  static List<String> faults(String name, String source) throws IOException {
    DiagnosticCollector<JavaFileObject> said = new DiagnosticCollector<>();
    List<String> options = List.of("--release", "17");
    List<JavaFileObject> files = List.of(file(name, source));
    JavaCompiler compiler = ToolProvider.getSystemJavaCompiler();
    JavacTask task = (JavacTask) compiler.getTask(null, null, said, options, null, files);
    CompilationUnitTree unit = task.parse().iterator().next();
    task.analyze();
    for (Diagnostic<?> one : said.getDiagnostics()) {
      if (one.getKind() == Diagnostic.Kind.ERROR) {
        return List.of("no Java: " + one);
      }
    }
    Language language = new Language(Trees.instance(task), unit);
    language.scan(new TreePath(unit), null);
    language.checkCalls();
    return language.faults;
  }

  private static JavaFileObject file(String name, String source) {
    URI uri = URI.create("string:///" + name + ".java");
    return new SimpleJavaFileObject(uri, JavaFileObject.Kind.SOURCE) {
      @Override
      public CharSequence getCharContent(boolean ignoreEncodingErrors) {
        return source;
      }
    };
  }

  private void need(boolean kept, int rule, String what, Tree where) {
    if (!kept) {
      faults.add("rule " + rule + ": " + what + ", line " + line(where, false));
    }
  }

  private long line(Tree tree, boolean last) {
    var places = trees.getSourcePositions();
    long place = last ? places.getEndPosition(unit, tree) : places.getStartPosition(unit, tree);
    return place < 0 ? 0 : unit.getLineMap().getLineNumber(place);
  }

  private Element element() {
    return trees.getElement(getCurrentPath());
  }

  private TypeMirror type(Tree tree) {
    return trees.getTypeMirror(new TreePath(getCurrentPath(), tree));
  }

  private static boolean isOwn(Element element) {
    Element out = element;
    while (out.getEnclosingElement().getKind() != ElementKind.PACKAGE) {
      out = out.getEnclosingElement();
    }
    return out.getSimpleName().contentEquals("LiveCollections");
  }

  // The constructor that javac itself writes has no place in the source.
  private boolean isWritten(Tree tree) {
    return trees.getSourcePositions().getEndPosition(unit, tree) >= 0;
  }

  @Override
  public Void scan(Tree tree, Void unused) {
    if (tree != null && !ALLOWED.contains(tree.getKind().name())) {
      need(false, 2, "a " + tree.getKind() + ", which the class has no use for", tree);
    }
    return super.scan(tree, unused);
  }

  @Override
  public Void visitCompilationUnit(CompilationUnitTree tree, Void unused) {
    need(tree.getPackage() == null, 1, "a package line", tree);
    need(tree.getTypeDecls().size() == 1, 1, "one class alone in the file", tree);
    return super.visitCompilationUnit(tree, unused);
  }

  @Override
  public Void visitImport(ImportTree tree, Void unused) {
    String name = tree.getQualifiedIdentifier().toString();
    need(!tree.isStatic() && IMPORTS.contains(name), 4, "import of " + name, tree);
    return null;
  }

  @Override
  public Void visitClass(ClassTree tree, Void unused) {
    classes++;
    need(classes <= MOST_CLASSES, 11, "too many classes", tree);
    need(tree.getExtendsClause() == null, 6, "a class that extends another", tree);
    need(method == null, 2, "a class inside a method", tree);
    boolean outer = element().getEnclosingElement().getKind() == ElementKind.PACKAGE;
    Set<Modifier> modifiers = element().getModifiers();
    if (!outer) {
      need(modifiers.contains(Modifier.STATIC), 1, "a class inside that is not static", tree);
      boolean shown = modifiers.contains(Modifier.PUBLIC) || modifiers.contains(Modifier.PROTECTED);
      need(!shown, 1, "a class inside that is to be seen", tree);
    }
    int fields = 0;
    for (Tree member : tree.getMembers()) {
      need(!(member instanceof BlockTree), 5, "an initialiser block", member);
      if (member instanceof VariableTree field
          && !field.getModifiers().getFlags().contains(Modifier.STATIC)) {
        fields++;
      }
    }
    need(fields <= MOST_FIELDS, 11, "too many fields", tree);
    needNamesApart((TypeElement) element(), tree);
    return super.visitClass(tree, unused);
  }

  private void needNamesApart(TypeElement of, Tree where) {
    Set<String> shown = new LinkedHashSet<>();
    for (Element member : of.getEnclosedElements()) {
      if (member.getModifiers().contains(Modifier.PUBLIC)) {
        shown.add(member.getSimpleName().toString());
      }
    }
    for (Element member : of.getEnclosedElements()) {
      boolean hidden = member.getModifiers().contains(Modifier.PRIVATE);
      String name = member.getSimpleName().toString();
      boolean same = member.getKind() == ElementKind.METHOD && hidden && shown.contains(name);
      need(!same, 1, "private method with a public one's name " + name, where);
    }
  }

  @Override
  public Void visitMethod(MethodTree tree, Void unused) {
    if (!isWritten(tree)) {
      return null;
    }
    ExecutableElement around = method;
    method = (ExecutableElement) element();
    calls.put(method, new LinkedHashSet<>());
    String name = tree.getName().toString();
    need(tree.getParameters().size() <= MOST_PARAMETERS, 11, name + ": parameters", tree);
    need(line(tree, true) - line(tree, false) < MOST_LINES, 11, name + " is long", tree);
    boolean ofObject = Set.of("equals", "hashCode", "toString", "clone").contains(name);
    need(!ofObject, 6, name + " of an own class", tree);
    Set<Modifier> modifiers = method.getModifiers();
    need(!modifiers.contains(Modifier.SYNCHRONIZED), 6, name + " is synchronized", tree);
    need(!modifiers.contains(Modifier.NATIVE), 4, name + " is native", tree);
    need(!method.isVarArgs(), 3, name + " takes any number", tree);
    if (method.getReturnType().getKind() != TypeKind.VOID) {
      needType(method.getReturnType(), tree);
    }
    super.visitMethod(tree, unused);
    method = around;
    return null;
  }

  @Override
  public Void visitVariable(VariableTree tree, Void unused) {
    VariableElement variable = (VariableElement) element();
    String name = tree.getName().toString();
    if (variable.getModifiers().contains(Modifier.STATIC)) {
      need(variable.getConstantValue() != null, 5, "static " + name + " is no constant", tree);
      Set<String> fit = Set.of("int", "long", "boolean", "char", "java.lang.String");
      need(fit.contains(variable.asType().toString()), 5, "the type of static " + name, tree);
    } else {
      needType(variable.asType(), tree);
    }
    return super.visitVariable(tree, unused);
  }

  private void needType(TypeMirror type, Tree where) {
    need(isPlain(type) || isArray(type), 3, "the type " + type, where);
  }

  private static boolean isPlain(TypeMirror type) {
    boolean own = type instanceof DeclaredType declared && isOwn(declared.asElement());
    return own || type.getKind().isPrimitive();
  }

  private static boolean isArray(TypeMirror type) {
    if (!(type instanceof ArrayType)) {
      return false;
    }
    TypeMirror of = ((ArrayType) type).getComponentType();
    boolean two = of instanceof ArrayType;
    return two ? ((ArrayType) of).getComponentType().getKind().isPrimitive() : isPlain(of);
  }

  @Override
  public Void visitArrayType(ArrayTypeTree tree, Void unused) {
    needType(type(tree.getType()), tree);
    return super.visitArrayType(tree, unused);
  }

  @Override
  public Void visitMethodInvocation(MethodInvocationTree tree, Void unused) {
    ExecutableElement called = (ExecutableElement) element();
    if (!isWritten(tree) || tree.getMethodSelect().toString().equals("super")) {
      return super.visitMethodInvocation(tree, unused);
    }
    if (isOwn(called)) {
      boolean ofObject = !called.getModifiers().contains(Modifier.STATIC);
      need(!inConstructor() || !ofObject, 12, "a constructor that calls " + called, tree);
      if (method != null) {
        calls.get(method).add(called);
      }
    } else {
      String name = called.getEnclosingElement() + "." + called.getSimpleName();
      boolean fits = called.getParameters().stream().noneMatch(Language::isFloating);
      need(LIBRARY.contains(name), 4, "a call of " + name, tree);
      need(fits, 3, name + " over doubles", tree);
    }
    return super.visitMethodInvocation(tree, unused);
  }

  private boolean inConstructor() {
    return method != null && method.getKind() == ElementKind.CONSTRUCTOR;
  }

  @Override
  public Void visitIdentifier(IdentifierTree tree, Void unused) {
    boolean whole = !(getCurrentPath().getParentPath().getLeaf() instanceof MemberSelectTree);
    boolean itself = tree.getName().contentEquals("this");
    need(!inConstructor() || !itself || !whole, 12, "a constructor that hands out this", tree);
    return super.visitIdentifier(tree, unused);
  }

  private static boolean isFloating(VariableElement parameter) {
    return isFloating(parameter.asType());
  }

  private static boolean isFloating(TypeMirror type) {
    return type.getKind() == TypeKind.DOUBLE || type.getKind() == TypeKind.FLOAT;
  }

  @Override
  public Void visitMemberSelect(MemberSelectTree tree, Void unused) {
    Element named = element();
    boolean field = named != null && named.getKind() == ElementKind.FIELD;
    boolean length = tree.getIdentifier().contentEquals("length");
    need(!field || length || isOwn(named), 4, "a field of the library: " + tree, tree);
    return super.visitMemberSelect(tree, unused);
  }

  @Override
  public Void visitThrow(ThrowTree tree, Void unused) {
    need(!inConstructor(), 6, "a throw in a constructor", tree);
    boolean made = tree.getExpression() instanceof NewClassTree;
    need(made, 6, "a throw of what is not made there", tree);
    if (made) {
      NewClassTree exception = (NewClassTree) tree.getExpression();
      need(THROWN.contains("" + type(exception)), 6, "a throw of " + exception, tree);
      List<? extends ExpressionTree> said = exception.getArguments();
      boolean plain = said.isEmpty() || said.size() == 1 && said.get(0) instanceof LiteralTree;
      need(plain, 6, "an exception with more than a written text", tree);
    }
    return super.visitThrow(tree, unused);
  }

  @Override
  public Void visitNewClass(NewClassTree tree, Void unused) {
    boolean thrown = getCurrentPath().getParentPath().getLeaf() instanceof ThrowTree;
    Element of = element().getEnclosingElement();
    need(thrown || isOwn(of), 4, "a new " + of, tree);
    need(tree.getClassBody() == null, 2, "an anonymous class", tree);
    need(loops == 0, 12, "an object made in a loop", tree);
    if (method != null && isOwn(of)) {
      calls.get(method).add((ExecutableElement) element());
    }
    return super.visitNewClass(tree, unused);
  }

  @Override
  public Void visitNewArray(NewArrayTree tree, Void unused) {
    need(loops == 0, 12, "an array made in a loop", tree);
    return super.visitNewArray(tree, unused);
  }

  @Override
  public Void visitTypeCast(TypeCastTree tree, Void unused) {
    need(type(tree.getType()).getKind().isPrimitive(), 6, "a cast of an object", tree);
    return super.visitTypeCast(tree, unused);
  }

  @Override
  public Void visitBinary(BinaryTree tree, Void unused) {
    needNoText(tree, tree);
    if (tree.getKind() == Tree.Kind.DIVIDE) {
      boolean bare = tree.getRightOperand() instanceof LiteralTree one && !isZero(one);
      boolean floating = isFloating(type(tree));
      need(bare || floating, 7, "a divisor that may be 0", tree);
    }
    return super.visitBinary(tree, unused);
  }

  private static boolean isZero(LiteralTree literal) {
    return literal.getValue() instanceof Number number && number.longValue() == 0;
  }

  @Override
  public Void visitCompoundAssignment(CompoundAssignmentTree tree, Void unused) {
    needNoText(tree.getVariable(), tree);
    return super.visitCompoundAssignment(tree, unused);
  }

  private void needNoText(Tree of, Tree where) {
    need(!"java.lang.String".equals("" + type(of)), 10, "texts that are joined by +", where);
  }

  @Override
  public Void visitForLoop(ForLoopTree tree, Void unused) {
    needEnd(tree.getCondition(), tree);
    loops++;
    super.visitForLoop(tree, unused);
    loops--;
    return null;
  }

  @Override
  public Void visitWhileLoop(WhileLoopTree tree, Void unused) {
    needEnd(tree.getCondition(), tree);
    loops++;
    super.visitWhileLoop(tree, unused);
    loops--;
    return null;
  }

  @Override
  public Void visitDoWhileLoop(DoWhileLoopTree tree, Void unused) {
    needEnd(tree.getCondition(), tree);
    loops++;
    super.visitDoWhileLoop(tree, unused);
    loops--;
    return null;
  }

  private void needEnd(ExpressionTree condition, Tree loop) {
    boolean ever = condition == null || condition.toString().replaceAll("[()]", "").equals("true");
    need(!ever, 9, "a loop without an end", loop);
  }

  private void checkCalls() {
    for (ExecutableElement caller : calls.keySet()) {
      boolean recursive = below(caller).anyMatch(caller::equals);
      boolean hidden = caller.getModifiers().contains(Modifier.PRIVATE);
      need(!recursive || hidden, 8, caller + " calls itself", trees.getTree(caller));
      need(deep(caller, new ArrayList<>()) <= MOST_DEEP, 11, caller + " calls too deep", unit);
    }
  }

  /** All methods that may be called by one, itself among them if it may come back to itself. */
  private Stream<ExecutableElement> below(ExecutableElement caller) {
    Set<ExecutableElement> found = new LinkedHashSet<>(calls.get(caller));
    int size = 0;
    while (size < found.size()) {
      size = found.size();
      for (ExecutableElement one : List.copyOf(found)) {
        found.addAll(calls.getOrDefault(one, Set.of()));
      }
    }
    return found.stream();
  }

  /** How many calls may stand open at once, each method on the way counted once. */
  private int deep(ExecutableElement caller, List<ExecutableElement> open) {
    if (open.contains(caller)) {
      return 0;
    }
    open.add(caller);
    int most = 0;
    for (ExecutableElement called : calls.getOrDefault(caller, Set.of())) {
      most = Math.max(most, deep(called, open));
    }
    open.remove(caller);
    return 1 + most;
  }
}
