import com.sun.source.tree.ClassTree;
import com.sun.source.tree.CompilationUnitTree;
import com.sun.source.tree.LambdaExpressionTree;
import com.sun.source.tree.MemberReferenceTree;
import com.sun.source.tree.MethodInvocationTree;
import com.sun.source.tree.MethodTree;
import com.sun.source.tree.NewClassTree;
import com.sun.source.tree.ThrowTree;
import com.sun.source.tree.Tree;
import com.sun.source.tree.TryTree;
import com.sun.source.util.JavacTask;
import com.sun.source.util.TreePathScanner;
import com.sun.source.util.Trees;
import java.nio.file.Path;
import java.util.ArrayList;
import java.util.HashSet;
import java.util.LinkedHashMap;
import java.util.List;
import java.util.Map;
import java.util.Set;
import java.util.TreeSet;
import javax.lang.model.element.Element;
import javax.lang.model.element.ElementKind;
import javax.lang.model.element.ExecutableElement;
import javax.lang.model.element.Modifier;
import javax.lang.model.element.TypeElement;
import javax.lang.model.util.Elements;
import javax.tools.StandardJavaFileManager;
import javax.tools.ToolProvider;

/** The limits of LANGUAGE.md (rules 2, 4, 6, 8 and 11) that a change could pass without being seen. */
public final class LanguageTest {
  private static final Check CHECK = new Check("LanguageTest");
  private static final Set<String> LIBRARY = Set.of("java.lang.Object()", "abs(int)", "max(int,int)", "min(int,int)",
      "bitCount(int)", "indexOf(int)", "arraycopy(java.lang.Object,int,java.lang.Object,int,int)");
  private static final int DEEPEST = 8;

  /** A call through super goes to the very method that it names. */
  private record Call(Element called, boolean isSuper) {
  }

  private final Map<Element, Set<Call>> callsOf = new LinkedHashMap<>();
  private final Map<Element, Integer> depthOf = new LinkedHashMap<>();
  private final Set<Element> open = new HashSet<>();
  private final List<TypeElement> classes = new ArrayList<>();
  private final TreeSet<String> foreign = new TreeSet<>();
  private CompilationUnitTree unit;
  private Trees trees;
  private Elements elements;

  public static void main(String[] args) throws Exception {
    new LanguageTest().run(Path.of("src/main/java/ShadowCourt.java"));
    CHECK.end();
  }

  private void run(Path file) throws Exception {
    var compiler = ToolProvider.getSystemJavaCompiler();
    try (StandardJavaFileManager files = compiler.getStandardFileManager(null, null, null)) {
      var options = List.of("-proc:none", "--release", "17");
      var task = (JavacTask) compiler.getTask(null, files, null, options, null, files.getJavaFileObjects(file));
      unit = task.parse().iterator().next();
      task.analyze();
      trees = Trees.instance(task);
      elements = task.getElements();
      CHECK.same("imports", unit.getImports().size(), 0);
      new Scanner().scan(unit, null);
      limits();
    }
  }

  private void limits() {
    CHECK.isTrue("no call but those on the list: " + foreign, foreign.isEmpty());
    CHECK.isTrue("twelve classes at most: " + classes.size(), classes.size() <= 12);
    for (TypeElement one : classes) {
      int fields = 0;
      for (Element each : one.getEnclosedElements()) {
        boolean isConstant = each.getModifiers().containsAll(Set.of(Modifier.STATIC, Modifier.FINAL));
        if (each.getKind() == ElementKind.FIELD && !isConstant) fields++;
      }
      CHECK.isTrue("twenty fields at most: " + one + " has " + fields, fields <= 20);
    }
    for (Element method : callsOf.keySet()) {
      int depth = depth(method);
      CHECK.isTrue("calls eight deep at most: " + method + " goes " + depth, depth <= DEEPEST);
    }
  }

  /** The method itself is the first; one of the library is one more. */
  private int depth(Element method) {
    Integer known = depthOf.get(method);
    if (known != null) return known;
    boolean isNew = open.add(method);
    CHECK.isTrue("no recursion: " + method, isNew);
    if (!isNew) return 0;
    int deepest = 0;
    for (Call call : callsOf.getOrDefault(method, Set.of())) {
      for (Element body : bodies(call)) deepest = Math.max(deepest, depth(body));
    }
    open.remove(method);
    depthOf.put(method, deepest + 1);
    return deepest + 1;
  }

  private List<Element> bodies(Call call) {
    Element called = call.called();
    List<Element> bodies = new ArrayList<>(List.of(called));
    if (call.isSuper()) return bodies;
    for (Element each : callsOf.keySet()) {
      boolean both = each instanceof ExecutableElement && called instanceof ExecutableElement;
      if (!both || each == called) continue;
      TypeElement owner = (TypeElement) each.getEnclosingElement();
      if (elements.overrides((ExecutableElement) each, (ExecutableElement) called, owner)) bodies.add(each);
    }
    return bodies;
  }

  private final class Scanner extends TreePathScanner<Void, Element> {
    @Override
    public Void visitClass(ClassTree tree, Element method) {
      TypeElement made = (TypeElement) trees.getElement(getCurrentPath());
      CHECK.isTrue("no class without a name, none in a method", !made.getSimpleName().isEmpty() && method == null);
      classes.add(made);
      return super.visitClass(tree, method);
    }

    @Override
    public Void visitMethod(MethodTree tree, Element outer) {
      Element method = trees.getElement(getCurrentPath());
      callsOf.put(method, new HashSet<>());
      CHECK.isTrue("seven parameters at most: " + method, tree.getParameters().size() <= 7);
      CHECK.isTrue("sixty lines at most: " + method, lines(tree) <= 60);
      return super.visitMethod(tree, method);
    }

    private long lines(Tree tree) {
      var places = trees.getSourcePositions();
      var map = unit.getLineMap();
      long start = places.getStartPosition(unit, tree);
      long end = Math.max(start, places.getEndPosition(unit, tree));
      return map.getLineNumber(end) - map.getLineNumber(start) + 1;
    }

    @Override
    public Void visitMethodInvocation(MethodInvocationTree tree, Element method) {
      calls(method, tree.getMethodSelect().toString().startsWith("super."));
      return super.visitMethodInvocation(tree, method);
    }

    @Override
    public Void visitNewClass(NewClassTree tree, Element method) {
      calls(method, false);
      return super.visitNewClass(tree, method);
    }

    private void calls(Element method, boolean isSuper) {
      Element called = trees.getElement(getCurrentPath());
      boolean isOwn = called.getEnclosingElement().toString().startsWith("ShadowCourt");
      if (!isOwn && !LIBRARY.contains(called.toString())
          && !called.getEnclosingElement().toString().equals("java.lang.Object")) {
        foreign.add(called.getEnclosingElement() + "." + called);
      }
      if (method != null) callsOf.get(method).add(new Call(called, isSuper));
    }

    @Override
    public Void visitLambdaExpression(LambdaExpressionTree tree, Element method) {
      foreign.add("a lambda");
      return null;
    }

    @Override
    public Void visitMemberReference(MemberReferenceTree tree, Element method) {
      foreign.add("a method reference");
      return null;
    }

    @Override
    public Void visitTry(TryTree tree, Element method) {
      foreign.add("a try, where nothing is thrown");
      return null;
    }

    @Override
    public Void visitThrow(ThrowTree tree, Element method) {
      foreign.add("a throw, though the document names no exception");
      return null;
    }
  }
}
