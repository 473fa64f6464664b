import com.sun.source.tree.ArrayAccessTree;
import com.sun.source.tree.AssertTree;
import com.sun.source.tree.BinaryTree;
import com.sun.source.tree.BlockTree;
import com.sun.source.tree.ClassTree;
import com.sun.source.tree.CompilationUnitTree;
import com.sun.source.tree.CompoundAssignmentTree;
import com.sun.source.tree.DoWhileLoopTree;
import com.sun.source.tree.EnhancedForLoopTree;
import com.sun.source.tree.ExpressionTree;
import com.sun.source.tree.ForLoopTree;
import com.sun.source.tree.IdentifierTree;
import com.sun.source.tree.ImportTree;
import com.sun.source.tree.LambdaExpressionTree;
import com.sun.source.tree.MemberReferenceTree;
import com.sun.source.tree.MemberSelectTree;
import com.sun.source.tree.MethodInvocationTree;
import com.sun.source.tree.MethodTree;
import com.sun.source.tree.NewArrayTree;
import com.sun.source.tree.NewClassTree;
import com.sun.source.tree.ParenthesizedTree;
import com.sun.source.tree.SynchronizedTree;
import com.sun.source.tree.ThrowTree;
import com.sun.source.tree.Tree;
import com.sun.source.tree.TryTree;
import com.sun.source.tree.TypeCastTree;
import com.sun.source.tree.UnaryTree;
import com.sun.source.tree.VariableTree;
import com.sun.source.tree.WhileLoopTree;
import com.sun.source.util.JavacTask;
import com.sun.source.util.TreePath;
import com.sun.source.util.TreePathScanner;
import com.sun.source.util.TreeScanner;
import com.sun.source.util.Trees;
import java.io.IOException;
import java.io.StringWriter;
import java.util.HashSet;
import java.util.List;
import java.util.Set;
import java.util.TreeSet;
import javax.lang.model.element.Element;
import javax.lang.model.element.ElementKind;
import javax.lang.model.element.ExecutableElement;
import javax.lang.model.element.Modifier;
import javax.lang.model.element.VariableElement;
import javax.lang.model.type.ArrayType;
import javax.lang.model.type.TypeKind;
import javax.lang.model.type.TypeMirror;

/**
 * The places where a class breaks a rule of ../shared/LANGUAGE.md, each with the rule's number, as far
 * as its text shows them. Stricter than the rules where these leave more than the class has use for:
 * no import, no throw, no while, no array that is made outside a constructor.
 */
final class Language extends TreePathScanner<Void, Void> {
  private static final int MOST_PARAMETERS = 7;
  private static final int MOST_LINES = 60;
  private static final int MOST_CLASSES = 12;
  private static final int MOST_FIELDS = 20;
  private static final int MOST_DEEP = 8;

  private static final Set<String> TEXT_CALLS = Set.of("String.length", "String.charAt",
      "String.isEmpty", "String.equals", "String.indexOf", "String.substring", "String.toCharArray",
      "System.arraycopy", "Object.<init>");
  private static final Set<String> NUMBER_CLASSES = Set.of("Integer", "Long", "Math");

  private final Set<String> breaches = new TreeSet<>();
  private final CallDepth calls;
  private final Trees trees;
  private final CompilationUnitTree unit;
  private int classes;

  private Language(JavacTask task, CompilationUnitTree unit) {
    this.unit = unit;
    trees = Trees.instance(task);
    calls = new CallDepth(task.getElements());
  }

  static Set<String> breachesOf(String name, String text) throws IOException {
    StringWriter errors = new StringWriter();
    JavacTask task = (JavacTask) Source.COMPILER.getTask(
        errors, null, null, null, null, List.of(new Source(name, text)));
    CompilationUnitTree unit = task.parse().iterator().next();
    task.analyze();
    if (errors.getBuffer().length() > 0) {
      throw new IllegalStateException("does not compile: " + errors);
    }
    Language language = new Language(task, unit);
    language.scan(unit, null);
    language.breaks(11, unit, language.classes > MOST_CLASSES, "too many classes");
    for (String cycle : language.calls.cycles()) {
      language.breaks(8, unit, true, "calls in a ring: " + cycle);
    }
    int deep = language.calls.deepest();
    language.breaks(11, unit, deep > MOST_DEEP, "calls go " + deep + " deep");
    return language.breaches;
  }

  private void breaks(int rule, Tree tree, boolean is, String what) {
    if (is) {
      long start = trees.getSourcePositions().getStartPosition(unit, tree);
      breaches.add(rule + ": " + what + ", line " + lineOf(start));
    }
  }

  private long lineOf(long position) {
    return position < 0 ? 0 : unit.getLineMap().getLineNumber(position);
  }

  // ---- rules 1, 2, 5, 11: classes, fields, methods

  @Override
  public Void visitImport(ImportTree tree, Void p) {
    breaks(4, tree, true, "an import");
    return super.visitImport(tree, p);
  }

  @Override
  public Void visitClass(ClassTree tree, Void p) {
    classes++;
    Tree parent = getCurrentPath().getParentPath().getLeaf();
    Set<Modifier> modifiers = tree.getModifiers().getFlags();
    breaks(2, tree, !(parent instanceof ClassTree || parent instanceof CompilationUnitTree),
        "a class inside a method");
    breaks(1, tree, parent instanceof ClassTree && !modifiers.contains(Modifier.STATIC),
        "an inner class that is not static");
    long fields = tree.getMembers().stream().filter(member -> member instanceof VariableTree
        && !((VariableTree) member).getModifiers().getFlags().contains(Modifier.STATIC)).count();
    breaks(11, tree, fields > MOST_FIELDS, "too many fields");
    return super.visitClass(tree, p);
  }

  @Override
  public Void visitBlock(BlockTree tree, Void p) {
    boolean initialiser = getCurrentPath().getParentPath().getLeaf() instanceof ClassTree;
    breaks(5, tree, initialiser, "an initialiser block");
    return super.visitBlock(tree, p);
  }

  @Override
  public Void visitMethod(MethodTree tree, Void p) {
    breaks(11, tree, tree.getParameters().size() > MOST_PARAMETERS, "too many parameters");
    long start = trees.getSourcePositions().getStartPosition(unit, tree);
    long end = trees.getSourcePositions().getEndPosition(unit, tree);
    breaks(11, tree, lineOf(end) - lineOf(start) >= MOST_LINES, "a long method");
    if (tree.getReturnType() != null) {
      breaks(3, tree, !allowed(typeOf(tree.getReturnType())), "a type of an answer");
    }
    calls.add((ExecutableElement) trees.getElement(getCurrentPath()));
    return super.visitMethod(tree, p);
  }

  @Override
  public Void visitVariable(VariableTree tree, Void p) {
    Element variable = trees.getElement(getCurrentPath());
    TypeMirror type = variable.asType();
    breaks(3, tree, !allowed(type), "a type of a variable");
    if (variable.getModifiers().contains(Modifier.STATIC)) {
      breaks(5, tree, !variable.getModifiers().contains(Modifier.FINAL) || isOwn(type),
          "a static field that can change");
    }
    boolean mayBeNull = tree.getInitializer() instanceof MethodInvocationTree
        || getCurrentPath().getParentPath().getLeaf() instanceof EnhancedForLoopTree;
    breaks(7, tree, mayBeNull && isOwn(type) && !looksAtNull(tree.getName().toString()),
        "not looked at against null");
    return super.visitVariable(tree, p);
  }

  // ---- rules 3, 4: types, library

  private TypeMirror typeOf(Tree tree) {
    return trees.getTypeMirror(new TreePath(getCurrentPath(), tree));
  }

  private static boolean isOwn(TypeMirror type) {
    return type != null && type.getKind() == TypeKind.DECLARED && !type.toString().startsWith("java.");
  }

  private static boolean isText(TypeMirror type) {
    return type != null && type.toString().equals("java.lang.String");
  }

  private static boolean allowed(TypeMirror type) {
    if (type.getKind() == TypeKind.ARRAY) {
      TypeMirror part = ((ArrayType) type).getComponentType();
      boolean twice = part.getKind() == TypeKind.ARRAY
          && ((ArrayType) part).getComponentType().getKind().isPrimitive();
      return part.getKind().isPrimitive() || isOwn(part) || twice;
    }
    return type.getKind().isPrimitive() || type.getKind() == TypeKind.VOID || isOwn(type)
        || isText(type);
  }

  private static boolean ofLibrary(ExecutableElement called) {
    String owner = called.getEnclosingElement().getSimpleName().toString();
    if (TEXT_CALLS.contains(owner + "." + called.getSimpleName())) {
      return true;
    }
    return NUMBER_CLASSES.contains(owner) && called.getModifiers().contains(Modifier.STATIC)
        && !called.getSimpleName().toString().endsWith("Exact")
        && called.getParameters().stream().allMatch(given -> given.asType().getKind() == TypeKind.INT
            || given.asType().getKind() == TypeKind.LONG);
  }

  private void call(Tree tree, Element called) {
    if (!(called instanceof ExecutableElement)) {
      breaks(4, tree, true, "a call of nothing known");
      return;
    }
    ExecutableElement method = (ExecutableElement) called;
    if (isOwn(method.getEnclosingElement().asType())) {
      calls.add(methodAround(), method);
    } else {
      breaks(4, tree, !ofLibrary(method), "of the library: " + method);
    }
  }

  @Override
  public Void visitMethodInvocation(MethodInvocationTree tree, Void p) {
    Element called = trees.getElement(getCurrentPath());
    call(tree, called);
    boolean again = called != null && called.equals(methodAround());
    breaks(8, tree, again && tree.getArguments().stream().noneMatch(Language::countsDown),
        "calls itself without a depth");
    return super.visitMethodInvocation(tree, p);
  }

  private static boolean countsDown(ExpressionTree given) {
    return given.getKind() == Tree.Kind.MINUS || given.getKind() == Tree.Kind.PLUS;
  }

  @Override
  public Void visitNewClass(NewClassTree tree, Void p) {
    call(tree, trees.getElement(getCurrentPath()));
    return super.visitNewClass(tree, p);
  }

  // ---- rules 2, 6, 10: what is left out

  @Override
  public Void visitLambdaExpression(LambdaExpressionTree tree, Void p) {
    breaks(2, tree, true, "a lambda");
    return super.visitLambdaExpression(tree, p);
  }

  @Override
  public Void visitMemberReference(MemberReferenceTree tree, Void p) {
    breaks(2, tree, true, "a method reference");
    return super.visitMemberReference(tree, p);
  }

  @Override
  public Void visitThrow(ThrowTree tree, Void p) {
    breaks(6, tree, true, "a throw: the document asks for none");
    return super.visitThrow(tree, p);
  }

  @Override
  public Void visitTry(TryTree tree, Void p) {
    breaks(6, tree, true, "a try");
    return super.visitTry(tree, p);
  }

  @Override
  public Void visitAssert(AssertTree tree, Void p) {
    breaks(6, tree, true, "an assert");
    return super.visitAssert(tree, p);
  }

  @Override
  public Void visitSynchronized(SynchronizedTree tree, Void p) {
    breaks(6, tree, true, "synchronized");
    return super.visitSynchronized(tree, p);
  }

  @Override
  public Void visitTypeCast(TypeCastTree tree, Void p) {
    breaks(6, tree, !typeOf(tree.getType()).getKind().isPrimitive(), "a cast of an object");
    return super.visitTypeCast(tree, p);
  }

  @Override
  public Void visitBinary(BinaryTree tree, Void p) {
    boolean left = isText(typeOf(tree.getLeftOperand()));
    boolean right = isText(typeOf(tree.getRightOperand()));
    Tree.Kind kind = tree.getKind();
    boolean same = kind == Tree.Kind.EQUAL_TO || kind == Tree.Kind.NOT_EQUAL_TO;
    breaks(6, tree, same && left && right, "two texts by ==");
    breaks(10, tree, kind == Tree.Kind.PLUS && (left || right), "texts joined by +");
    boolean divides = kind == Tree.Kind.DIVIDE || kind == Tree.Kind.REMAINDER;
    breaks(7, tree, divides && !lookedAt(tree.getRightOperand()), "a divisor not looked at");
    return super.visitBinary(tree, p);
  }

  @Override
  public Void visitCompoundAssignment(CompoundAssignmentTree tree, Void p) {
    Tree.Kind kind = tree.getKind();
    boolean divides =
        kind == Tree.Kind.DIVIDE_ASSIGNMENT || kind == Tree.Kind.REMAINDER_ASSIGNMENT;
    breaks(7, tree, divides && !lookedAt(tree.getExpression()), "a divisor not looked at");
    breaks(10, tree, isText(typeOf(tree.getVariable())), "texts joined by +=");
    return super.visitCompoundAssignment(tree, p);
  }

  // ---- rules 7, 9, 12: what could throw, or not end

  @Override
  public Void visitArrayAccess(ArrayAccessTree tree, Void p) {
    breaks(7, tree, !lookedAt(tree.getIndex()), "an index not looked at");
    return super.visitArrayAccess(tree, p);
  }

  @Override
  public Void visitMemberSelect(MemberSelectTree tree, Void p) {
    ExpressionTree whose = tree.getExpression();
    boolean unseen = whose instanceof MethodInvocationTree || whose instanceof ArrayAccessTree;
    breaks(7, tree, unseen && isOwn(typeOf(whose)), "not looked at against null");
    return super.visitMemberSelect(tree, p);
  }

  @Override
  public Void visitNewArray(NewArrayTree tree, Void p) {
    for (ExpressionTree length : tree.getDimensions()) {
      breaks(7, tree, !isFixed(length), "a length not looked at");
    }
    ExecutableElement around = methodAround();
    breaks(12, tree, around != null && around.getKind() != ElementKind.CONSTRUCTOR,
        "an array made by a call");
    return super.visitNewArray(tree, p);
  }

  @Override
  public Void visitWhileLoop(WhileLoopTree tree, Void p) {
    breaks(9, tree, true, "a while");
    return super.visitWhileLoop(tree, p);
  }

  @Override
  public Void visitDoWhileLoop(DoWhileLoopTree tree, Void p) {
    breaks(9, tree, true, "a do");
    return super.visitDoWhileLoop(tree, p);
  }

  @Override
  public Void visitForLoop(ForLoopTree tree, Void p) {
    Set<String> compared = comparedIn(tree.getCondition());
    boolean ends = tree.getUpdate().stream().map(Object::toString)
        .anyMatch(step -> compared.contains(step.replaceAll("[-+]|\\s|;", "")));
    breaks(9, tree, !ends, "a for whose counter is not held against a bound");
    return super.visitForLoop(tree, p);
  }

  private ExecutableElement methodAround() {
    TreePath path = methodPath();
    return path == null ? null : (ExecutableElement) trees.getElement(path);
  }

  private TreePath methodPath() {
    TreePath path = getCurrentPath();
    while (path != null && !(path.getLeaf() instanceof MethodTree)) {
      path = path.getParentPath();
    }
    return path;
  }

  private boolean isFixed(ExpressionTree number) {
    if (number instanceof ParenthesizedTree) {
      return isFixed(((ParenthesizedTree) number).getExpression());
    }
    if (number instanceof BinaryTree) {
      BinaryTree both = (BinaryTree) number;
      return isFixed(both.getLeftOperand()) && isFixed(both.getRightOperand());
    }
    Element named = trees.getElement(new TreePath(getCurrentPath(), number));
    boolean constant = named instanceof VariableElement
        && ((VariableElement) named).getConstantValue() != null;
    return constant || number.getKind() == Tree.Kind.INT_LITERAL
        || number.getKind() == Tree.Kind.LONG_LITERAL;
  }

  /** Fixed, or a name that the method compares or asks about (by a method called "is.."). */
  private boolean lookedAt(ExpressionTree number) {
    TreePath around = methodPath();
    return isFixed(number) || number instanceof IdentifierTree && around != null
        && comparedIn(around.getLeaf()).contains(number.toString());
  }

  private boolean looksAtNull(String name) {
    TreePath around = methodPath();
    String text = around == null ? "" : around.getLeaf().toString();
    return text.contains(name + " == null") || text.contains(name + " != null");
  }

  private static Set<String> comparedIn(Tree part) {
    Set<String> names = new HashSet<>();
    new TreeScanner<Void, Void>() {
      @Override
      public Void visitBinary(BinaryTree tree, Void p) {
        switch (tree.getKind()) {
          case LESS_THAN: case LESS_THAN_EQUAL: case GREATER_THAN: case GREATER_THAN_EQUAL:
            namesIn(tree, names);
            break;
          default:
        }
        return super.visitBinary(tree, p);
      }

      @Override
      public Void visitMethodInvocation(MethodInvocationTree tree, Void p) {
        if (tree.getMethodSelect().toString().matches("(.*\\.)?is[A-Z]\\w*")) {
          tree.getArguments().forEach(given -> names.add(given.toString()));
        }
        return super.visitMethodInvocation(tree, p);
      }
    }.scan(part, null);
    return names;
  }

  /** Names that stand in a comparison by themselves or in a sum, not inside a call. */
  private static void namesIn(ExpressionTree part, Set<String> names) {
    if (part instanceof BinaryTree) {
      namesIn(((BinaryTree) part).getLeftOperand(), names);
      namesIn(((BinaryTree) part).getRightOperand(), names);
    } else if (part instanceof UnaryTree) {
      namesIn(((UnaryTree) part).getExpression(), names);
    } else if (part instanceof IdentifierTree) {
      names.add(part.toString());
    }
  }
}
