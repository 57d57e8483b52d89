import com.sun.source.tree.ClassTree;
import com.sun.source.tree.CompilationUnitTree;
import com.sun.source.tree.MethodInvocationTree;
import com.sun.source.tree.MethodTree;
import com.sun.source.tree.NewClassTree;
import com.sun.source.util.JavacTask;
import com.sun.source.util.TreePathScanner;
import com.sun.source.util.Trees;
import java.nio.file.Path;
import java.util.ArrayList;
import java.util.HashMap;
import java.util.LinkedHashSet;
import java.util.List;
import java.util.Map;
import java.util.Set;
import java.util.TreeSet;
import javax.lang.model.element.Element;
import javax.tools.JavaCompiler;
import javax.tools.StandardJavaFileManager;
import javax.tools.ToolProvider;

/**
 * Rule 11 of LANGUAGE.md: calls go at most eight deep. A method of the face is the first of the eight, and of
 * methods that call one another each one counts once.
 */
public final class CallDepthTest {
  private static final int DEEPEST = 8;

  private final Map<String, Set<String>> calls = new HashMap<>();
  private List<String> longest = new ArrayList<>();

  public static void main(String[] args) throws Exception {
    CallDepthTest test = new CallDepthTest();
    test.read(Path.of("src/main/java/DebateHall.java"));
    for (String method : new TreeSet<>(test.calls.keySet())) {
      test.follow(method, new LinkedHashSet<>());
    }
    Check.same("methods are found", test.calls.size() > 100, true);
    Check.same("a chain is found", test.longest.size() > 2, true);
    Check.same("calls go at most eight deep: " + test.longest, test.longest.size() <= DEEPEST, true);
    Check.end("CallDepthTest");
  }

  private void read(Path source) throws Exception {
    JavaCompiler compiler = ToolProvider.getSystemJavaCompiler();
    try (StandardJavaFileManager files = compiler.getStandardFileManager(null, null, null)) {
      JavacTask task = (JavacTask) compiler.getTask(null, files, null, null, null, files.getJavaFileObjects(source));
      Iterable<? extends CompilationUnitTree> units = task.parse();
      task.analyze();
      for (CompilationUnitTree unit : units) {
        new CallsOfMethods(Trees.instance(task)).scan(unit, null);
      }
    }
  }

  /** Notes which method of the file calls which; what stands outside of methods belongs to its class. */
  private final class CallsOfMethods extends TreePathScanner<Void, Void> {
    private final Trees trees;
    private String method = "";

    CallsOfMethods(Trees trees) {
      this.trees = trees;
    }

    @Override
    public Void visitClass(ClassTree tree, Void unused) {
      String outer = method;
      method = String.valueOf(trees.getElement(getCurrentPath()));
      super.visitClass(tree, unused);
      method = outer;
      return null;
    }

    @Override
    public Void visitMethod(MethodTree tree, Void unused) {
      String outer = method;
      method = named(trees.getElement(getCurrentPath()));
      calls.computeIfAbsent(method, name -> new TreeSet<>());
      super.visitMethod(tree, unused);
      method = outer;
      return null;
    }

    @Override
    public Void visitMethodInvocation(MethodInvocationTree tree, Void unused) {
      note();
      return super.visitMethodInvocation(tree, unused);
    }

    @Override
    public Void visitNewClass(NewClassTree tree, Void unused) {
      note();
      return super.visitNewClass(tree, unused);
    }

    private void note() {
      String called = named(trees.getElement(getCurrentPath()));
      if (called.startsWith("DebateHall")) {
        calls.computeIfAbsent(method, name -> new TreeSet<>()).add(called);
      }
    }

    private String named(Element element) {
      return element.getEnclosingElement() + "." + element;
    }
  }

  private void follow(String method, Set<String> chain) {
    if (!chain.add(method)) {
      return;
    }
    if (chain.size() > longest.size()) {
      longest = new ArrayList<>(chain);
    }
    for (String called : calls.getOrDefault(method, Set.of())) {
      follow(called, chain);
    }
    chain.remove(method);
  }
}
