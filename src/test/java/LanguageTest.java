import com.sun.source.tree.AssertTree;
import com.sun.source.tree.CatchTree;
import com.sun.source.tree.ClassTree;
import com.sun.source.tree.CompilationUnitTree;
import com.sun.source.tree.LambdaExpressionTree;
import com.sun.source.tree.MemberReferenceTree;
import com.sun.source.tree.MethodInvocationTree;
import com.sun.source.tree.MethodTree;
import com.sun.source.tree.NewClassTree;
import com.sun.source.tree.SynchronizedTree;
import com.sun.source.tree.ThrowTree;
import com.sun.source.tree.Tree;
import com.sun.source.tree.TryTree;
import com.sun.source.tree.VariableTree;
import com.sun.source.util.JavacTask;
import com.sun.source.util.TreePathScanner;
import com.sun.source.util.Trees;
import java.io.IOException;
import java.nio.file.Path;
import java.util.ArrayList;
import java.util.HashMap;
import java.util.HashSet;
import java.util.List;
import java.util.Map;
import java.util.Set;
import java.util.TreeMap;
import java.util.TreeSet;
import javax.lang.model.element.Element;
import javax.lang.model.element.ElementKind;
import javax.lang.model.element.Modifier;
import javax.tools.JavaCompiler;
import javax.tools.StandardJavaFileManager;
import javax.tools.ToolProvider;

/** What of ../shared/LANGUAGE.md can be seen in the source: the face, the words, the library, sizes and depths. */
public final class LanguageTest {
  private static final Path SOURCE = Path.of("src/main/java/ReadyBell.java");
  private static final String FACE = """
      pipe(int)int counter(int,boolean)int timer()int set()int listener(int,int)int connect(int)int accept(int)int
      twin(int)int close(int)boolean write(int,int)int read(int,int)int arm(int,int,int)boolean tick(int)int
      add(int,int,int,int)int change(int,int,int,int)boolean drop(int,int)boolean collect(int,int,int)int
      await(int,int,int,int)int handle(int,int)int other(int)int interest(int,int,int)int listed(int)int shows(int)int
      shown(int,int)int depth(int)int sleeper(int,int)int task(int,int)int got(int,int,int)int wakes(int)int
      plan(int,int,int,int)int round(int,boolean)boolean rounds(int)int stuck()int soon(int)int calls(int,int)int
      image(int)int back(int)int forget(int)int step(int)int orders(int,int,int)int undo()boolean redo()boolean
      about(int)int""";
  /** Rule 4, class by class; of Integer, Long and Math the static functions whose names do not end in Exact. */
  private static final Map<String, Set<String>> LIBRARY = Map.of(
      "java.lang.String", Set.of("length", "charAt", "isEmpty", "equals", "indexOf", "substring", "toCharArray", "<init>"),
      "java.lang.StringBuilder", Set.of("append", "charAt", "setCharAt", "setLength", "deleteCharAt", "reverse", "length",
          "toString", "<init>"),
      "java.util.ArrayList", Set.of("add", "get", "set", "remove", "size", "isEmpty", "clear", "<init>"),
      "java.util.List", Set.of("add", "get", "set", "remove", "size", "isEmpty", "clear", "of"),
      "java.lang.System", Set.of("arraycopy"),
      "java.util.Arrays", Set.of("copyOf", "copyOfRange", "fill"),
      "Array", Set.of("clone"),
      "java.lang.Object", Set.of("<init>"));
  private static final Set<String> NUMBERS = Set.of("java.lang.Integer", "java.lang.Long", "java.lang.Math");
  private static int wrong = 0;

  private static void fault(int rule, String what) {
    wrong++;
    System.out.println("rule " + rule + ": " + what);
  }

  public static void main(String[] args) throws IOException {
    JavaCompiler compiler = ToolProvider.getSystemJavaCompiler();
    try (StandardJavaFileManager files = compiler.getStandardFileManager(null, null, null)) {
      JavacTask task = (JavacTask) compiler.getTask(null, files, null, List.of("-proc:none"), null,
          files.getJavaFileObjects(SOURCE));
      CompilationUnitTree unit = task.parse().iterator().next();
      task.analyze();
      Scan scan = new Scan(unit, Trees.instance(task));
      scan.scan(unit, null);
      scan.judge();
    }
    face();
    System.out.println(wrong == 0 ? "the language is kept to" : wrong + " faults");
    if (wrong != 0) System.exit(1);
  }

  private static void face() {
    Set<String> due = new TreeSet<>(List.of(FACE.trim().split("\\s+")));
    Set<String> there = new TreeSet<>();
    Set<String> publicNames = new HashSet<>();
    Set<String> privateNames = new HashSet<>();
    for (java.lang.reflect.Method m : ReadyBell.class.getDeclaredMethods()) {
      if (java.lang.reflect.Modifier.isPrivate(m.getModifiers())) {
        privateNames.add(m.getName());
        continue;
      }
      publicNames.add(m.getName());
      List<String> given = new ArrayList<>();
      for (Class<?> c : m.getParameterTypes()) given.add(c.getName());
      there.add(m.getName() + "(" + String.join(",", given) + ")" + m.getReturnType().getName());
    }
    for (Class<?> c : ReadyBell.class.getDeclaredClasses()) {
      for (java.lang.reflect.Method m : c.getDeclaredMethods()) privateNames.add(m.getName());
      if (!java.lang.reflect.Modifier.isStatic(c.getModifiers())) fault(2, c + " is not static");
    }
    if (!there.equals(due)) fault(1, "the methods are " + there);
    privateNames.retainAll(publicNames);
    if (!privateNames.isEmpty()) fault(1, "names of the face are used again: " + privateNames);
    for (java.lang.reflect.Field f : ReadyBell.class.getDeclaredFields()) {
      boolean hidden = java.lang.reflect.Modifier.isPrivate(f.getModifiers());
      if (!hidden && !f.getName().equals("NONE")) fault(1, f + " can be seen");
    }
    if (!java.lang.reflect.Modifier.isFinal(ReadyBell.class.getModifiers())) fault(1, "the class is not final");
  }

  static final class Scan extends TreePathScanner<Void, Void> {
    private final CompilationUnitTree unit;
    private final Trees trees;
    private final Map<Element, Set<Element>> calls = new HashMap<>();
    private final Map<Element, Integer> depths = new HashMap<>();
    private final Map<String, Integer> fields = new TreeMap<>();
    private Element method;
    private int classes = 0;

    Scan(CompilationUnitTree unit, Trees trees) {
      this.unit = unit;
      this.trees = trees;
    }

    private long line(Tree t, boolean end) {
      long at = end ? trees.getSourcePositions().getEndPosition(unit, t)
          : trees.getSourcePositions().getStartPosition(unit, t);
      return unit.getLineMap().getLineNumber(at);
    }

    private void refuse(int rule, Tree t) {
      fault(rule, "line " + line(t, false) + ": " + t.getKind());
    }

    @Override public Void visitClass(ClassTree t, Void v) {
      classes++;
      Element e = trees.getElement(getCurrentPath());
      boolean nested = e.getEnclosingElement().getKind().isClass();
      if (nested && !e.getModifiers().contains(Modifier.STATIC)) refuse(2, t);
      if (t.getSimpleName().isEmpty() || e.getEnclosingElement().getKind() == ElementKind.METHOD) refuse(2, t);
      return super.visitClass(t, v);
    }

    @Override public Void visitVariable(VariableTree t, Void v) {
      Element e = trees.getElement(getCurrentPath());
      if (e.getKind() == ElementKind.FIELD) {
        if (!e.getModifiers().contains(Modifier.STATIC)) {
          fields.merge(e.getEnclosingElement().toString(), 1, Integer::sum);
        } else if (!e.getModifiers().contains(Modifier.FINAL)
            || !Set.of("int", "long", "boolean", "char", "java.lang.String").contains(e.asType().toString())) {
          refuse(5, t);
        }
      }
      return super.visitVariable(t, v);
    }

    @Override public Void visitMethod(MethodTree t, Void v) {
      method = trees.getElement(getCurrentPath());
      calls.put(method, new HashSet<>());
      if (line(t, true) - line(t, false) >= 60) fault(11, method + " is long");
      if (t.getParameters().size() > 7) fault(11, method + " takes more than seven");
      super.visitMethod(t, v);
      boolean selfCall = calls.get(method).contains(method);
      if (selfCall && !method.getModifiers().contains(Modifier.PRIVATE)) fault(8, method + " calls itself, not private");
      method = null;
      return null;
    }

    @Override public Void visitMethodInvocation(MethodInvocationTree t, Void v) {
      Element e = trees.getElement(getCurrentPath());
      String owner = e.getEnclosingElement().toString();
      if (owner.startsWith("ReadyBell")) {
        if (method != null) calls.get(method).add(e);
      } else if (!inLibrary(owner.replaceAll("<.*>", ""), e)) {
        fault(4, "line " + line(t, false) + ": " + owner + "." + e.getSimpleName());
      }
      return super.visitMethodInvocation(t, v);
    }

    private static boolean inLibrary(String owner, Element e) {
      String name = e.getSimpleName().toString();
      if (NUMBERS.contains(owner)) return e.getModifiers().contains(Modifier.STATIC) && !name.endsWith("Exact");
      return LIBRARY.getOrDefault(owner, Set.of()).contains(name);
    }

    @Override public Void visitNewClass(NewClassTree t, Void v) {
      Element e = trees.getElement(getCurrentPath());
      if (method != null) calls.get(method).add(e);
      String owner = e.getEnclosingElement().toString();
      if (!owner.startsWith("ReadyBell") && !inLibrary(owner.replaceAll("<.*>", ""), e)) refuse(4, t);
      return super.visitNewClass(t, v);
    }

    @Override public Void visitLambdaExpression(LambdaExpressionTree t, Void v) {
      refuse(2, t);
      return super.visitLambdaExpression(t, v);
    }

    @Override public Void visitMemberReference(MemberReferenceTree t, Void v) {
      refuse(2, t);
      return super.visitMemberReference(t, v);
    }

    @Override public Void visitThrow(ThrowTree t, Void v) {
      refuse(6, t);
      return super.visitThrow(t, v);
    }

    @Override public Void visitTry(TryTree t, Void v) {
      refuse(6, t);
      return super.visitTry(t, v);
    }

    @Override public Void visitCatch(CatchTree t, Void v) {
      refuse(6, t);
      return super.visitCatch(t, v);
    }

    @Override public Void visitSynchronized(SynchronizedTree t, Void v) {
      refuse(6, t);
      return super.visitSynchronized(t, v);
    }

    @Override public Void visitAssert(AssertTree t, Void v) {
      refuse(6, t);
      return super.visitAssert(t, v);
    }

    void judge() {
      if (classes > 12) fault(11, classes + " classes");
      fields.forEach((owner, n) -> {
        if (n > 20) fault(11, owner + " has " + n + " fields");
      });
      for (Element m : calls.keySet()) {
        int deep = depth(m, new ArrayList<>());
        if (deep > 8) fault(11, m + " goes " + deep + " deep");
      }
    }

    /** A call of itself is the only recursion there is; another ring is a fault. */
    private int depth(Element m, List<Element> open) {
      if (open.contains(m)) {
        fault(8, "a ring of calls: " + open);
        return 0;
      }
      Integer known = depths.get(m);
      if (known != null) return known;
      open.add(m);
      int deepest = 0;
      for (Element called : calls.getOrDefault(m, Set.of())) {
        if (called != m) deepest = Math.max(deepest, depth(called, open));
      }
      open.remove(m);
      depths.put(m, deepest + 1);
      return deepest + 1;
    }
  }
}
