import com.sun.source.tree.*;
import com.sun.source.util.JavacTask;
import com.sun.source.util.TreePath;
import com.sun.source.util.TreePathScanner;
import com.sun.source.util.Trees;
import java.nio.file.Path;
import java.util.HashMap;
import java.util.HashSet;
import java.util.List;
import java.util.Map;
import java.util.Set;
import javax.lang.model.element.Element;
import javax.lang.model.element.ElementKind;
import javax.lang.model.element.ExecutableElement;
import javax.lang.model.element.Modifier;
import javax.lang.model.element.TypeElement;
import javax.lang.model.type.TypeKind;
import javax.lang.model.type.TypeMirror;
import javax.tools.JavaCompiler;
import javax.tools.StandardJavaFileManager;
import javax.tools.ToolProvider;

/** The class keeps to those rules of LANGUAGE.md that its syntax tree shows. */
public final class LanguageTest {
  private static final String MAIN = "IslandsWed";
  /** Methods that may call themselves; each carries its depth as an argument. */
  private static final Set<String> RECURSIVE = Set.of("goThrough");
  private static final Set<String> STRING = Set.of("length", "charAt", "isEmpty", "equals", "indexOf", "substring", "toCharArray");
  private static final Set<String> BUILDER = Set.of("append", "charAt", "setCharAt", "setLength", "deleteCharAt", "reverse", "length", "toString");
  private static final Set<String> LIST = Set.of("add", "get", "set", "remove", "size", "isEmpty", "clear", "of");
  private static final Set<String> ARRAYS = Set.of("copyOf", "copyOfRange", "fill");
  private static int wrong = 0;
  private static int looked = 0;

  private static void rule(int rule, boolean kept, String what) {
    looked++;
    if (!kept) {
      wrong++;
      System.out.println("rule " + rule + ": " + what);
    }
  }

  public static void main(String[] args) throws Exception {
    Path file = Path.of(System.getProperty("project.root", "."), "src", "main", "java", MAIN + ".java");
    JavaCompiler compiler = ToolProvider.getSystemJavaCompiler();
    try (StandardJavaFileManager files = compiler.getStandardFileManager(null, null, null)) {
      JavacTask task = (JavacTask) compiler.getTask(null, files, null, List.of("-proc:none"), null, files.getJavaFileObjects(file));
      Iterable<? extends CompilationUnitTree> units = task.parse();
      task.analyze();
      for (CompilationUnitTree unit : units) {
        rule(1, unit.getPackage() == null, "a package line");
        rule(1, unit.getTypeDecls().size() == 1, "one class stands in the file, all others inside it");
        Look look = new Look(Trees.instance(task), unit);
        look.scan(unit, null);
        look.end();
      }
    }
    System.out.println(wrong == 0 ? "the class keeps to the language, in all " + looked + " things looked at" : wrong + " things are not as due");
    if (wrong != 0) System.exit(1);
  }

  private static final class Look extends TreePathScanner<Void, Void> {
    private final Trees trees;
    private final CompilationUnitTree unit;
    private final Map<Element, Set<Element>> calls = new HashMap<>();
    private final Set<String> publicNames = new HashSet<>();
    private final Set<Element> methods = new HashSet<>();
    private int classes = 0;

    Look(Trees trees, CompilationUnitTree unit) {
      this.trees = trees;
      this.unit = unit;
    }

    private String at(Tree tree) {
      long line = unit.getLineMap().getLineNumber(trees.getSourcePositions().getStartPosition(unit, tree));
      return "line " + line + ": ";
    }

    private int lines(Tree tree) {
      LineMap map = unit.getLineMap();
      long first = map.getLineNumber(trees.getSourcePositions().getStartPosition(unit, tree));
      return (int) (map.getLineNumber(trees.getSourcePositions().getEndPosition(unit, tree)) - first) + 1;
    }

    private Element element() {
      return trees.getElement(getCurrentPath());
    }

    private static TypeElement outermost(Element element) {
      Element at = element;
      while (at.getEnclosingElement() != null && at.getEnclosingElement().getKind() != ElementKind.PACKAGE) at = at.getEnclosingElement();
      return at instanceof TypeElement type ? type : null;
    }

    private static boolean isOwn(Element element) {
      TypeElement outer = outermost(element);
      return outer != null && outer.getQualifiedName().contentEquals(MAIN);
    }

    private void refuse(int rule, Tree tree, String what) {
      rule(rule, false, at(tree) + what);
    }

    // ---- classes, fields, methods

    @Override public Void visitClass(ClassTree tree, Void none) {
      classes++;
      Element own = element();
      Tree around = getCurrentPath().getParentPath().getLeaf();
      boolean inside = !own.getSimpleName().contentEquals(MAIN);
      if (inside) {
        rule(2, around instanceof ClassTree, at(tree) + "a local or anonymous class");
        rule(2, own.getModifiers().contains(Modifier.STATIC), at(tree) + "a class that is not static");
        rule(1, !own.getModifiers().contains(Modifier.PUBLIC) && !own.getModifiers().contains(Modifier.PROTECTED), at(tree) + "a class that is seen");
      } else {
        rule(1, own.getModifiers().containsAll(Set.of(Modifier.PUBLIC, Modifier.FINAL)), "the class is public and final");
      }
      int fields = 0;
      for (Tree member : tree.getMembers()) {
        rule(5, !(member instanceof BlockTree), at(tree) + "an initialiser block");
        if (member instanceof VariableTree field && !field.getModifiers().getFlags().contains(Modifier.STATIC)) fields++;
      }
      rule(11, fields <= 20, at(tree) + fields + " fields");
      return super.visitClass(tree, none);
    }

    @Override public Void visitVariable(VariableTree tree, Void none) {
      Element own = element();
      if (own != null && own.getKind() == ElementKind.FIELD) {
        boolean shown = !own.getModifiers().contains(Modifier.PRIVATE);
        boolean told = Set.of("NONE", "UNKNOWN", "OUTSIDE", "STATE", "FULL").contains(own.getSimpleName().toString());
        rule(1, shown == told, at(tree) + own + " is seen");
        if (own.getModifiers().contains(Modifier.STATIC)) constant(tree, own);
      }
      if (own != null) rule(3, isTypeLeft(own.asType()), at(tree) + own.asType());
      return super.visitVariable(tree, none);
    }

    private void constant(VariableTree tree, Element own) {
      String type = own.asType().toString();
      rule(5, own.getModifiers().contains(Modifier.FINAL), at(tree) + own + " is not final");
      rule(5, Set.of("int", "long", "boolean", "char", "java.lang.String", "int[]", "long[]", "char[]", "byte[]").contains(type), at(tree) + type);
      boolean writtenOut = tree.getInitializer() instanceof NewArrayTree array && array.getInitializers() != null;
      rule(5, !type.endsWith("[]") || writtenOut, at(tree) + own + " is not written out");
    }

    private static boolean isTypeLeft(TypeMirror type) {
      String name = type.toString().replaceAll("(\\[\\]){1,2}$", "").replaceAll("<.*>", "");
      return type.getKind().isPrimitive() || name.startsWith(MAIN) || Set.of("int", "long", "short", "byte", "char", "boolean", "double", "float",
          "java.lang.String", "java.lang.StringBuilder", "java.lang.Integer", "java.util.ArrayList", "java.util.List").contains(name);
    }

    @Override public Void visitMethod(MethodTree tree, Void none) {
      Element own = element();
      boolean outer = own.getEnclosingElement().getSimpleName().contentEquals(MAIN);
      boolean isPublic = own.getModifiers().contains(Modifier.PUBLIC);
      if (own.getKind() == ElementKind.METHOD) {
        methods.add(own);
        if (outer && isPublic) publicNames.add(own.getSimpleName().toString());
        rule(1, isPublic && outer || own.getModifiers().contains(Modifier.PRIVATE) || !outer, at(tree) + own + " is seen");
      }
      rule(6, !Set.of("equals", "hashCode", "toString").contains(own.getSimpleName().toString()), at(tree) + own);
      rule(6, tree.getThrows().isEmpty() && !own.getModifiers().contains(Modifier.SYNCHRONIZED), at(tree) + own);
      rule(11, tree.getParameters().size() <= 7, at(tree) + own + " has too many parameters");
      rule(11, lines(tree) <= 60, at(tree) + own + " has " + lines(tree) + " lines");
      return super.visitMethod(tree, none);
    }

    // ---- what is called

    private Element around() {
      TreePath path = getCurrentPath();
      while (path != null && !(path.getLeaf() instanceof MethodTree)) path = path.getParentPath();
      return path == null ? null : trees.getElement(path);
    }

    @Override public Void visitMethodInvocation(MethodInvocationTree tree, Void none) {
      Element called = trees.getElement(new TreePath(getCurrentPath(), tree.getMethodSelect()));
      if (isOwn(called)) {
        calls.computeIfAbsent(around(), key -> new HashSet<>()).add(called);
      } else if (called.getKind() == ElementKind.METHOD) {
        rule(4, isLibraryLeft((ExecutableElement) called), at(tree) + called.getEnclosingElement() + "." + called);
      }
      return super.visitMethodInvocation(tree, none);
    }

    private static boolean isLibraryLeft(ExecutableElement called) {
      String name = called.getSimpleName().toString();
      switch (called.getEnclosingElement().toString()) {
        case "java.lang.String": return STRING.contains(name);
        case "java.lang.StringBuilder": return BUILDER.contains(name);
        case "java.util.ArrayList": case "java.util.List": return LIST.contains(name);
        case "java.util.Arrays": return ARRAYS.contains(name);
        case "java.lang.System": return name.equals("arraycopy");
        case "java.lang.Integer": case "java.lang.Long": case "java.lang.Math": return isOverNumbers(called);
        case "Array": return name.equals("clone");
        default: return false;
      }
    }

    private static boolean isOverNumbers(ExecutableElement called) {
      boolean numbers = called.getModifiers().contains(Modifier.STATIC) && !called.getSimpleName().toString().endsWith("Exact");
      for (Element parameter : called.getParameters()) {
        TypeKind kind = parameter.asType().getKind();
        numbers &= kind == TypeKind.INT || kind == TypeKind.LONG;
      }
      return numbers;
    }

    @Override public Void visitNewClass(NewClassTree tree, Void none) {
      Element made = trees.getElement(new TreePath(getCurrentPath(), tree.getIdentifier()));
      boolean left = isOwn(made) || Set.of("java.lang.String", "java.lang.StringBuilder", "java.util.ArrayList").contains(made.toString());
      rule(4, left, at(tree) + "new " + made);
      rule(2, tree.getClassBody() == null, at(tree) + "an anonymous class");
      return super.visitNewClass(tree, none);
    }

    @Override public Void visitBinary(BinaryTree tree, Void none) {
      if (tree.getKind() == Tree.Kind.PLUS) {
        TypeMirror type = trees.getTypeMirror(getCurrentPath());
        rule(10, type == null || !type.toString().equals("java.lang.String"), at(tree) + "texts joined by +");
      }
      return super.visitBinary(tree, none);
    }

    // ---- what is left out

    @Override public Void visitLambdaExpression(LambdaExpressionTree tree, Void none) {
      refuse(2, tree, "a lambda");
      return super.visitLambdaExpression(tree, none);
    }

    @Override public Void visitMemberReference(MemberReferenceTree tree, Void none) {
      refuse(2, tree, "a method reference");
      return super.visitMemberReference(tree, none);
    }

    @Override public Void visitThrow(ThrowTree tree, Void none) {
      refuse(6, tree, "throw");
      return super.visitThrow(tree, none);
    }

    @Override public Void visitTry(TryTree tree, Void none) {
      refuse(6, tree, "try");
      return super.visitTry(tree, none);
    }

    @Override public Void visitSynchronized(SynchronizedTree tree, Void none) {
      refuse(6, tree, "synchronized");
      return super.visitSynchronized(tree, none);
    }

    @Override public Void visitAssert(AssertTree tree, Void none) {
      refuse(6, tree, "assert");
      return super.visitAssert(tree, none);
    }

    // ---- the whole

    void end() {
      rule(11, classes <= 12, classes + " classes");
      rule(1, publicNames.size() == 25, publicNames.size() + " public methods");
      for (Element method : methods) {
        boolean bears = publicNames.contains(method.getSimpleName().toString()) && !method.getModifiers().contains(Modifier.PUBLIC);
        rule(1, !bears, method + " bears the name of a public one");
        boolean callsItself = calls.getOrDefault(method, Set.of()).contains(method);
        rule(8, !callsItself || RECURSIVE.contains(method.getSimpleName().toString()), method + " calls itself");
        int deep = depth(method, new HashSet<>());
        rule(8, deep < 100, method + " is called by what it calls");
        rule(11, deep <= 8, method + " goes " + deep + " calls deep");
      }
    }

    /** How many calls stand open at most from this one on, those to itself aside; 100 if it comes round again. */
    private int depth(Element method, Set<Element> open) {
      if (!open.add(method)) return 100;
      int deepest = 0;
      for (Element called : calls.getOrDefault(method, Set.of())) if (!called.equals(method)) deepest = Math.max(deepest, depth(called, open));
      open.remove(method);
      return deepest + 1;
    }
  }
}
