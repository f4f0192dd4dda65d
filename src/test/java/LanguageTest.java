import com.sun.source.tree.*;
import com.sun.source.util.JavacTask;
import com.sun.source.util.TreePath;
import com.sun.source.util.TreePathScanner;
import com.sun.source.util.Trees;
import java.nio.file.Files;
import java.nio.file.Path;
import java.util.ArrayList;
import java.util.HashMap;
import java.util.List;
import java.util.Map;
import java.util.Set;
import javax.lang.model.element.*;
import javax.lang.model.type.ArrayType;
import javax.lang.model.type.DeclaredType;
import javax.lang.model.type.TypeKind;
import javax.lang.model.type.TypeMirror;
import javax.lang.model.util.Elements;
import javax.tools.JavaCompiler;
import javax.tools.StandardJavaFileManager;
import javax.tools.ToolProvider;

/**
 * Rules of LANGUAGE.md that can be read off the program's tree: 2 to 6 and 8 to 13. Where the program does not use
 * what a rule leaves (recursion, while, casts, static arrays), the test is stricter than the rule: it then has to
 * be widened with care. Rule 1 is FaceTest's, rule 7 RoomTest's.
 */
public final class LanguageTest {
  private static final String PROGRAM = "src/main/java/HopYard.java";
  private static int wrong = 0;

  private static final Set<String> IMPORTS = Set.of("java.util.ArrayList", "java.util.List", "java.util.Arrays", "java.util.Iterator");
  private static final Map<String, Set<String>> LIBRARY = Map.of(
      "java.lang.String", Set.of("length", "charAt", "isEmpty", "equals", "indexOf", "substring", "toCharArray"),
      "java.lang.StringBuilder", Set.of("append", "charAt", "setCharAt", "setLength", "deleteCharAt", "reverse", "length", "toString"),
      "java.util.ArrayList", Set.of("add", "get", "set", "remove", "size", "isEmpty", "clear"),
      "java.util.List", Set.of("add", "get", "set", "remove", "size", "isEmpty", "clear", "of"),
      "java.lang.Math", Set.of("max", "min", "abs", "floorDiv", "floorMod"),
      "java.lang.Integer", Set.of("compare", "max", "min", "bitCount"),
      "java.lang.Long", Set.of("compare", "max", "min", "bitCount"),
      "java.lang.System", Set.of("arraycopy"),
      "java.util.Arrays", Set.of("copyOf", "copyOfRange", "fill"));
  private static final Set<TypeKind> NUMBERS = Set.of(TypeKind.INT, TypeKind.LONG, TypeKind.SHORT, TypeKind.BYTE, TypeKind.CHAR,
      TypeKind.BOOLEAN, TypeKind.DOUBLE, TypeKind.FLOAT);
  private static final Set<Tree.Kind> RULED_OUT = Set.of(Tree.Kind.THROW, Tree.Kind.TRY, Tree.Kind.CATCH, Tree.Kind.SYNCHRONIZED,
      Tree.Kind.ASSERT, Tree.Kind.LAMBDA_EXPRESSION, Tree.Kind.MEMBER_REFERENCE, Tree.Kind.ANNOTATION, Tree.Kind.PACKAGE,
      Tree.Kind.TYPE_CAST);

  private static void fault(int rule, String text) {
    wrong++;
    System.out.println("rule " + rule + ": " + text);
  }

  public static void main(String[] args) throws Exception {
    JavaCompiler javac = ToolProvider.getSystemJavaCompiler();
    try (StandardJavaFileManager files = javac.getStandardFileManager(null, null, null)) {
      JavacTask task = (JavacTask) javac.getTask(null, files, null, List.of("--release", "17"), null, files.getJavaFileObjects(PROGRAM));
      CompilationUnitTree unit = task.parse().iterator().next();
      task.analyze();
      Reader reader = new Reader(Trees.instance(task), task.getElements(), unit);
      reader.scan(unit, null);
      reader.wholeFile();
    }
    signs();
    System.out.println(wrong == 0 ? "the program keeps to the rules" : wrong + " faults of LANGUAGE.md");
    if (wrong != 0) System.exit(1);
  }

  private static void signs() throws Exception {
    for (char c : Files.readString(Path.of(PROGRAM)).toCharArray()) {
      if (c > 126) { fault(4, "a sign above 126"); return; }
    }
  }

  private static final class Reader extends TreePathScanner<Void, Void> {
    final Trees trees;
    final Elements elements;
    final CompilationUnitTree unit;
    final List<ExecutableElement> methods = new ArrayList<>();
    final Map<ExecutableElement, List<ExecutableElement>> calls = new HashMap<>();
    int classes = 0;

    Reader(Trees trees, Elements elements, CompilationUnitTree unit) {
      this.trees = trees;
      this.elements = elements;
      this.unit = unit;
    }

    Element element(Tree t) {
      return trees.getElement(new TreePath(getCurrentPath(), t));
    }

    TypeMirror type(Tree t) {
      return trees.getTypeMirror(new TreePath(getCurrentPath(), t));
    }

    boolean isText(Tree t) {
      TypeMirror type = type(t);
      return type != null && (type.toString().equals("java.lang.String") || type.toString().equals("java.lang.Integer"));
    }

    static String ownerName(Element e) {
      return ((TypeElement) e.getEnclosingElement()).getQualifiedName().toString();
    }

    static boolean isOwn(String name) {
      return name.equals("HopYard") || name.startsWith("HopYard.");
    }

    String where(Tree t) {
      return "line " + unit.getLineMap().getLineNumber(trees.getSourcePositions().getStartPosition(unit, t));
    }

    @Override public Void scan(Tree t, Void v) {
      if (t != null && RULED_OUT.contains(t.getKind())) fault(6, where(t) + ": " + t.getKind());
      return super.scan(t, v);
    }

    @Override public Void visitImport(ImportTree t, Void v) {
      if (t.isStatic() || !IMPORTS.contains(t.getQualifiedIdentifier().toString())) fault(4, where(t) + ": " + t);
      return super.visitImport(t, v);
    }

    @Override public Void visitClass(ClassTree t, Void v) {
      classes++;
      Tree parent = getCurrentPath().getParentPath().getLeaf();
      Set<Modifier> is = t.getModifiers().getFlags();
      if (parent instanceof ClassTree ? t.getKind() == Tree.Kind.CLASS && !is.contains(Modifier.STATIC) : !(parent instanceof CompilationUnitTree)) {
        fault(2, where(t) + ": a class inside that is not static, or is local or without a name");
      }
      int fields = 0;
      for (Tree member : t.getMembers()) {
        if (member instanceof BlockTree) fault(5, where(member) + ": an initialiser block");
        if (member instanceof VariableTree f && !f.getModifiers().getFlags().contains(Modifier.STATIC)) fields++;
      }
      if (fields > 20) fault(11, where(t) + ": " + fields + " fields");
      return super.visitClass(t, v);
    }

    @Override public Void visitMethod(MethodTree t, Void v) {
      ExecutableElement e = (ExecutableElement) trees.getElement(getCurrentPath());
      methods.add(e);
      calls.put(e, new ArrayList<>());
      if (t.getParameters().size() > 7) fault(11, where(t) + ": more than seven parameters");
      long first = trees.getSourcePositions().getStartPosition(unit, t), last = trees.getSourcePositions().getEndPosition(unit, t);
      if (last >= 0 && unit.getLineMap().getLineNumber(last) - unit.getLineMap().getLineNumber(first) >= 60) fault(11, where(t) + ": more than sixty lines");
      if (Set.of("equals", "hashCode", "toString").contains(t.getName().toString())) fault(6, where(t) + ": " + t.getName());
      if (t.getReturnType() != null) kept(t, type(t.getReturnType()));
      return super.visitMethod(t, v);
    }

    @Override public Void visitVariable(VariableTree t, Void v) {
      VariableElement e = (VariableElement) trees.getElement(getCurrentPath());
      kept(t, e.asType());
      if (e.getKind() == ElementKind.FIELD && e.getModifiers().contains(Modifier.STATIC)) {
        if (!e.getModifiers().contains(Modifier.FINAL)) fault(5, where(t) + ": static and not final");
        if (e.getConstantValue() == null) fault(5, where(t) + ": static and no constant");
      }
      return super.visitVariable(t, v);
    }

    /** Rule 3: numbers, own classes, texts, lists of own classes or Integer, arrays of these. */
    void kept(Tree t, TypeMirror type) {
      TypeMirror part = type;
      int deep = 0;
      for (; part instanceof ArrayType a && deep < 3; deep++) part = a.getComponentType();
      boolean number = NUMBERS.contains(part.getKind());
      if (deep > 2 || (deep == 2 && !number)) fault(3, where(t) + ": " + type);
      if (number || (part.getKind() == TypeKind.VOID && deep == 0)) return;
      if (!(part instanceof DeclaredType d)) { fault(3, where(t) + ": " + type); return; }
      String name = ((TypeElement) d.asElement()).getQualifiedName().toString();
      if (isOwn(name) || name.equals("java.lang.String") || name.equals("java.lang.StringBuilder")) return;
      boolean list = name.equals("java.util.ArrayList") || name.equals("java.util.List");
      if (!list || d.getTypeArguments().size() != 1) { fault(3, where(t) + ": " + type); return; }
      String of = d.getTypeArguments().get(0).toString();
      if (!isOwn(of) && !of.equals("java.lang.Integer")) fault(3, where(t) + ": " + type);
    }

    @Override public Void visitMethodInvocation(MethodInvocationTree t, Void v) {
      ExecutableElement called = (ExecutableElement) element(t.getMethodSelect());
      String owner = ownerName(called), name = called.getSimpleName().toString();
      if (isOwn(owner)) {
        boolean fixed = t.getMethodSelect() instanceof MemberSelectTree s && s.getExpression().toString().equals("super");
        calls(called, fixed);
      } else if (name.equals("<init>")) {
        if (!owner.equals("java.lang.Object") && !owner.equals("java.lang.Record") && !owner.equals("java.lang.Enum")) fault(4, where(t) + ": " + t);
      } else if (!LIBRARY.getOrDefault(owner, Set.of()).contains(name)) {
        fault(4, where(t) + ": " + owner + "." + name);
      }
      return super.visitMethodInvocation(t, v);
    }

    @Override public Void visitNewClass(NewClassTree t, Void v) {
      String made = ownerName(trees.getElement(getCurrentPath()));
      if (t.getClassBody() != null) fault(2, where(t) + ": a class without a name");
      if (isOwn(made)) calls((ExecutableElement) trees.getElement(getCurrentPath()), true);
      else if (!Set.of("java.util.ArrayList", "java.lang.StringBuilder", "java.lang.String").contains(made)) fault(4, where(t) + ": new " + made);
      return super.visitNewClass(t, v);
    }

    void calls(ExecutableElement called, boolean fixed) {
      for (TreePath p = getCurrentPath(); p != null; p = p.getParentPath()) {
        if (!(p.getLeaf() instanceof MethodTree)) continue;
        List<ExecutableElement> list = calls.get((ExecutableElement) trees.getElement(p));
        list.add(called);
        // A null behind it says that those that override it may be called as well.
        if (!fixed) list.add(null);
        return;
      }
    }

    @Override public Void visitBinary(BinaryTree t, Void v) {
      boolean text = isText(t.getLeftOperand()) || isText(t.getRightOperand());
      if (text && t.getKind() == Tree.Kind.PLUS) fault(10, where(t) + ": texts joined by +");
      if (text && (t.getKind() == Tree.Kind.EQUAL_TO || t.getKind() == Tree.Kind.NOT_EQUAL_TO)) fault(6, where(t) + ": texts compared by sign");
      return super.visitBinary(t, v);
    }

    @Override public Void visitWhileLoop(WhileLoopTree t, Void v) {
      fault(9, where(t) + ": a loop whose end this test can't see");
      return super.visitWhileLoop(t, v);
    }

    @Override public Void visitDoWhileLoop(DoWhileLoopTree t, Void v) {
      fault(9, where(t) + ": a loop whose end this test can't see");
      return super.visitDoWhileLoop(t, v);
    }

    @Override public Void visitForLoop(ForLoopTree t, Void v) {
      if (t.getCondition() == null || t.getUpdate().isEmpty()) fault(9, where(t) + ": a loop whose end is not seen");
      return super.visitForLoop(t, v);
    }

    @Override public Void visitEnhancedForLoop(EnhancedForLoopTree t, Void v) {
      if (!(type(t.getExpression()) instanceof ArrayType)) fault(12, where(t) + ": a list's iterator");
      return super.visitEnhancedForLoop(t, v);
    }

    void wholeFile() {
      if (classes > 12) fault(11, classes + " classes");
      for (ExecutableElement m : methods) {
        if (m.getModifiers().contains(Modifier.PUBLIC)) deepest(m, 1, new ArrayList<>());
      }
    }

    void deepest(ExecutableElement m, int depth, List<ExecutableElement> open) {
      if (open.contains(m)) { fault(8, m + " calls itself"); return; }
      if (depth > 8) { fault(11, "calls more than eight deep: " + open + ", " + m); return; }
      open.add(m);
      List<ExecutableElement> called = calls.getOrDefault(m, List.of());
      for (int i = 0; i < called.size(); i++) {
        if (called.get(i) == null) continue;
        deepest(called.get(i), depth + 1, open);
        if (i + 1 < called.size() && called.get(i + 1) == null) {
          for (ExecutableElement other : methods) {
            if (elements.overrides(other, called.get(i), (TypeElement) other.getEnclosingElement())) deepest(other, depth + 1, open);
          }
        }
      }
      open.remove(open.size() - 1);
    }
  }
}
