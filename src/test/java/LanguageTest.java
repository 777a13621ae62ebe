import com.sun.source.tree.AssertTree;
import com.sun.source.tree.BinaryTree;
import com.sun.source.tree.CatchTree;
import com.sun.source.tree.ClassTree;
import com.sun.source.tree.CompilationUnitTree;
import com.sun.source.tree.ImportTree;
import com.sun.source.tree.LambdaExpressionTree;
import com.sun.source.tree.LiteralTree;
import com.sun.source.tree.MemberReferenceTree;
import com.sun.source.tree.MemberSelectTree;
import com.sun.source.tree.MethodInvocationTree;
import com.sun.source.tree.MethodTree;
import com.sun.source.tree.NewArrayTree;
import com.sun.source.tree.NewClassTree;
import com.sun.source.tree.SynchronizedTree;
import com.sun.source.tree.ThrowTree;
import com.sun.source.tree.Tree;
import com.sun.source.tree.TryTree;
import com.sun.source.tree.VariableTree;
import com.sun.source.util.JavacTask;
import com.sun.source.util.SourcePositions;
import com.sun.source.util.TreePathScanner;
import com.sun.source.util.Trees;
import java.lang.reflect.Field;
import java.lang.reflect.Method;
import java.lang.reflect.Modifier;
import java.nio.file.Files;
import java.nio.file.Path;
import java.util.ArrayList;
import java.util.Arrays;
import java.util.HashMap;
import java.util.List;
import java.util.Map;
import java.util.Set;
import java.util.TreeSet;
import javax.lang.model.element.Element;
import javax.lang.model.element.ElementKind;
import javax.lang.model.element.ExecutableElement;
import javax.lang.model.element.TypeElement;
import javax.tools.JavaCompiler;
import javax.tools.StandardJavaFileManager;
import javax.tools.ToolProvider;

/** The rules of LANGUAGE.md that can be looked up in the program's text, and the face of DOC.md. */
public final class LanguageTest {
  private static final Path SOURCE = Path.of("src/main/java/GoatCourt.java");
  private static final Path DOC = Path.of("../shared/DOC.md");
  private static final Check check = new Check();
  /** Rule 4, by class. */
  private static final Map<String, Set<String>> LIBRARY = Map.of(
      "java.lang.String", Set.of("length", "charAt", "isEmpty", "equals", "indexOf", "substring", "toCharArray"),
      "java.lang.StringBuilder", Set.of("append", "charAt", "setCharAt", "setLength", "deleteCharAt", "reverse", "length", "toString"),
      "java.util.ArrayList", Set.of("add", "get", "set", "remove", "size", "isEmpty", "clear"),
      "java.util.List", Set.of("add", "get", "set", "remove", "size", "isEmpty", "clear", "of"),
      "java.util.Iterator", Set.of("hasNext", "next"), "java.lang.Iterable", Set.of("iterator"),
      "java.lang.Comparable", Set.of("compareTo"), "java.lang.System", Set.of("arraycopy"),
      "java.util.Arrays", Set.of("copyOf", "copyOfRange", "fill"), "java.lang.Object", Set.of("clone"));
  private static final Set<String> NUMBERS = Set.of("java.lang.Integer", "java.lang.Long", "java.lang.Math");
  private static final Set<String> IMPORTS = Set.of("java.util.Arrays", "java.util.NoSuchElementException", "java.util.ArrayList",
      "java.util.List", "java.util.Iterator");
  private static final Set<String> EXCEPTIONS = Set.of("IllegalStateException", "IllegalArgumentException",
      "IndexOutOfBoundsException", "ArithmeticException", "UnsupportedOperationException", "NoSuchElementException",
      "RuntimeException");

  public static void main(String[] args) throws Exception {
    face();
    JavaCompiler compiler = ToolProvider.getSystemJavaCompiler();
    try (StandardJavaFileManager files = compiler.getStandardFileManager(null, null, null)) {
      JavacTask task = (JavacTask) compiler.getTask(null, files, null, List.of("-proc:none"), null,
          files.getJavaFileObjects(SOURCE));
      Iterable<? extends CompilationUnitTree> units = task.parse();
      task.analyze();
      Trees trees = Trees.instance(task);
      for (CompilationUnitTree unit : units) {
        Look look = new Look(trees, unit);
        look.scan(unit, null);
        look.finish();
      }
    }
    check.end();
  }

  private static void no(String what) {
    check.due("a rule of LANGUAGE.md: " + what, "broken", "kept");
  }

  private static void kept(boolean is, String what) {
    check.due("a rule of LANGUAGE.md: " + what, is ? "kept" : "broken", "kept");
  }

  /** The document's face and no more. */
  private static void face() throws Exception {
    Set<String> due = new TreeSet<>();
    boolean inFace = false;
    for (String line : Files.readAllLines(DOC)) {
      if (line.startsWith("public final class GoatCourt")) {
        inFace = true;
      } else if (line.startsWith("}")) {
        inFace = false;
      } else if (inFace && line.contains("(") && !line.contains("GoatCourt(")) {
        due.add(line.strip().replaceAll("(int|long|boolean) \\w+(?=[,)])", "$1").replace(";", "")
            .replace(" throws NoSuchElementException", ""));
      }
    }
    Set<String> got = new TreeSet<>();
    for (Method m : GoatCourt.class.getDeclaredMethods()) {
      if (Modifier.isPublic(m.getModifiers())) {
        StringBuilder types = new StringBuilder();
        for (Class<?> type : m.getParameterTypes()) {
          types.append(types.length() == 0 ? "" : ", ").append(type.getName());
        }
        got.add("public " + m.getReturnType() + " " + m.getName() + "(" + types + ")");
      } else {
        kept(Modifier.isPrivate(m.getModifiers()) || m.isSynthetic(), "1, " + m.getName());
        for (Method other : GoatCourt.class.getDeclaredMethods()) {
          kept(!Modifier.isPublic(other.getModifiers()) || !other.getName().equals(m.getName()), "1, " + m.getName());
        }
      }
    }
    check.due("the face", got, due);
    check.due("its calls", due.size(), 51);
    check.due("put() throws", Arrays.toString(GoatCourt.class.getMethod("put", int.class, boolean.class)
        .getExceptionTypes()), "[class java.util.NoSuchElementException]");
    check.due("constructors", Arrays.toString(GoatCourt.class.getDeclaredConstructors()), "[public GoatCourt()]");
    check.due("the class", GoatCourt.class.getModifiers(), Modifier.PUBLIC | Modifier.FINAL);
    for (Field f : GoatCourt.class.getDeclaredFields()) {
      kept(Modifier.isPrivate(f.getModifiers()) || f.getName().equals("NONE"), "1, " + f.getName());
    }
    due("NONE", GoatCourt.class.getField("NONE"), -1);
    for (Class<?> inside : GoatCourt.class.getDeclaredClasses()) {
      boolean seen = Modifier.isPublic(inside.getModifiers()) || Modifier.isProtected(inside.getModifiers());
      kept(Modifier.isStatic(inside.getModifiers()) && !seen, "1, " + inside);
    }
  }

  private static void due(String name, Field field, int value) throws Exception {
    int modifiers = Modifier.PUBLIC | Modifier.STATIC | Modifier.FINAL;
    check.due(name, field.getType() + " " + field.getInt(null) + " " + field.getModifiers(), "int " + value + " " + modifiers);
  }

  private static final class Look extends TreePathScanner<Void, Void> {
    private final Trees trees;
    private final CompilationUnitTree unit;
    private final SourcePositions places;
    private final Map<Element, Set<Element>> calls = new HashMap<>();
    private final Set<Element> own = new java.util.HashSet<>();
    private final Set<Element> throwing = new java.util.HashSet<>();
    private final Set<Element> catching = new java.util.HashSet<>();
    private Element method = null;
    private String methodText = "";
    private boolean inConstructor = false;
    private int classes = 0;

    Look(Trees trees, CompilationUnitTree unit) {
      this.trees = trees;
      this.unit = unit;
      places = trees.getSourcePositions();
    }

    private String line(Tree tree) {
      return "line " + unit.getLineMap().getLineNumber(places.getStartPosition(unit, tree));
    }

    @Override
    public Void visitImport(ImportTree tree, Void v) {
      kept(IMPORTS.contains(tree.getQualifiedIdentifier().toString()) && !tree.isStatic(), "4, " + tree);
      return null;
    }

    @Override
    public Void visitClass(ClassTree tree, Void v) {
      classes++;
      int fields = 0;
      for (Tree member : tree.getMembers()) {
        if (member instanceof VariableTree field) {
          boolean isStatic = field.getModifiers().getFlags().contains(javax.lang.model.element.Modifier.STATIC);
          boolean isFinal = field.getModifiers().getFlags().contains(javax.lang.model.element.Modifier.FINAL);
          fields += isStatic ? 0 : 1;
          if (isStatic) {
            kept(isFinal && isConstant(field), "5, " + field.getName());
          }
        }
        kept(member.getKind() != Tree.Kind.BLOCK, "5, a block, " + line(member));
      }
      kept(fields <= 22, "11, " + fields + " fields in " + tree.getSimpleName());
      return super.visitClass(tree, v);
    }

    /** Constants, the constants of an enum, rows written out, and an enum's values() kept once. */
    private boolean isConstant(VariableTree field) {
      String type = field.getType().toString();
      if (Set.of("int", "long", "boolean", "char", "String").contains(type)) {
        return true;
      }
      if (type.endsWith("[]")) {
        boolean isRow = Set.of("int[]", "long[]", "char[]", "byte[]").contains(type);
        String from = String.valueOf(field.getInitializer());
        return isRow ? field.getInitializer() instanceof NewArrayTree row && row.getInitializers() != null
            : from.equals(type.replace("[]", "") + ".values()");
      }
      // a constant of the enum in which it stands
      return field.getInitializer() instanceof NewClassTree;
    }

    @Override
    public Void visitMethod(MethodTree tree, Void v) {
      method = trees.getElement(getCurrentPath());
      own.add(method);
      methodText = tree.toString();
      inConstructor = method.getKind() == ElementKind.CONSTRUCTOR;
      calls.put(method, new java.util.HashSet<>());
      kept(tree.getParameters().size() <= 7, "11, " + tree.getName());
      long first = unit.getLineMap().getLineNumber(places.getStartPosition(unit, tree));
      long last = unit.getLineMap().getLineNumber(Math.max(1, places.getEndPosition(unit, tree)));
      kept(last - first <= 65, "11, " + tree.getName() + " has " + (last - first) + " lines");
      super.visitMethod(tree, v);
      method = null;
      inConstructor = false;
      return null;
    }

    @Override
    public Void visitMethodInvocation(MethodInvocationTree tree, Void v) {
      ExecutableElement called = (ExecutableElement) trees.getElement(getCurrentPath());
      String owner = ((TypeElement) called.getEnclosingElement()).getQualifiedName().toString();
      String name = called.getSimpleName().toString();
      if (owner.startsWith("GoatCourt")) {
        // values() is kept once, by a static field
        kept(method == null || !name.equals("values"), "12, " + tree);
        if (method != null) {
          calls.get(method).add(called);
        }
      } else if (!name.equals("<init>")) {
        boolean isNumbers = NUMBERS.contains(owner) && !name.endsWith("Exact")
            && called.getModifiers().contains(javax.lang.model.element.Modifier.STATIC);
        kept(isNumbers || LIBRARY.getOrDefault(owner, Set.of()).contains(name), "4, " + owner + "." + name);
      }
      return super.visitMethodInvocation(tree, v);
    }

    @Override
    public Void visitMemberSelect(MemberSelectTree tree, Void v) {
      Element chosen = trees.getElement(getCurrentPath());
      if (chosen != null && chosen.getKind() == ElementKind.FIELD && chosen.getEnclosingElement() instanceof TypeElement owner) {
        String name = owner.getQualifiedName().toString();
        kept(name.startsWith("GoatCourt") || name.equals("Array"), "4, " + tree);
      }
      return super.visitMemberSelect(tree, v);
    }

    @Override
    public Void visitThrow(ThrowTree tree, Void v) {
      throwing.add(method);
      boolean right = tree.getExpression() instanceof NewClassTree made && EXCEPTIONS.contains(made.getIdentifier().toString())
          && (made.getArguments().isEmpty() || made.getArguments().size() == 1 && made.getArguments().get(0) instanceof LiteralTree);
      kept(right && !inConstructor, "6, " + line(tree));
      return super.visitThrow(tree, v);
    }

    @Override
    public Void visitBinary(BinaryTree tree, Void v) {
      boolean joins = tree.getKind() == Tree.Kind.PLUS
          && trees.getTypeMirror(getCurrentPath()).toString().equals("java.lang.String");
      kept(!joins, "10, " + line(tree));
      if (tree.getKind() == Tree.Kind.DIVIDE || tree.getKind() == Tree.Kind.REMAINDER) {
        String by = tree.getRightOperand().toString();
        // a divisor is a constant, or its method tests it
        boolean tested = methodText.contains(by + " <= 0") || methodText.contains(by + " == 0") || methodText.contains(by + " > 0")
            || methodText.contains(by + " != 0") || methodText.contains(by + " < 1");
        kept(by.matches("[0-9]+|[A-Z_]+") || tested, "7, " + by + ", " + line(tree));
      }
      return super.visitBinary(tree, v);
    }

    @Override
    public Void visitLambdaExpression(LambdaExpressionTree tree, Void v) {
      no("2, " + line(tree));
      return null;
    }

    @Override
    public Void visitMemberReference(MemberReferenceTree tree, Void v) {
      no("2, " + line(tree));
      return null;
    }

    @Override
    public Void visitTry(TryTree tree, Void v) {
      catching.add(method);
      kept(tree.getFinallyBlock() == null && tree.getResources().isEmpty(), "6, " + line(tree));
      return super.visitTry(tree, v);
    }

    @Override
    public Void visitCatch(CatchTree tree, Void v) {
      kept(EXCEPTIONS.contains(tree.getParameter().getType().toString()), "6, " + line(tree));
      return super.visitCatch(tree, v);
    }

    @Override
    public Void visitAssert(AssertTree tree, Void v) {
      no("6, " + line(tree));
      return null;
    }

    @Override
    public Void visitSynchronized(SynchronizedTree tree, Void v) {
      no("6, " + line(tree));
      return null;
    }

    /** Calls that are no recursion go at most eight deep; no method catches that throws. */
    void finish() {
      kept(classes <= 13, "11, " + classes + " classes");
      for (Element e : catching) {
        kept(!throwing.contains(e), "6, " + e + " throws and catches");
      }
      for (Element e : own) {
        List<Element> path = deepest(e, new ArrayList<>());
        kept(path.size() <= 8, "11, depth " + path.size() + ": " + path);
      }
    }

    private List<Element> deepest(Element e, List<Element> ahead) {
      if (ahead.contains(e)) {
        return List.of();
      }
      ahead.add(e);
      List<Element> best = List.of();
      for (Element next : calls.getOrDefault(e, Set.of())) {
        List<Element> path = own.contains(next) ? deepest(next, ahead) : List.of(next);
        best = path.size() > best.size() ? path : best;
      }
      ahead.remove(ahead.size() - 1);
      List<Element> all = new ArrayList<>();
      all.add(e);
      all.addAll(best);
      return all;
    }
  }
}
