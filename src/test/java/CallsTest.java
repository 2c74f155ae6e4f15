import com.sun.source.tree.AssignmentTree;
import com.sun.source.tree.BinaryTree;
import com.sun.source.tree.ClassTree;
import com.sun.source.tree.CompilationUnitTree;
import com.sun.source.tree.IdentifierTree;
import com.sun.source.tree.MemberSelectTree;
import com.sun.source.tree.MethodTree;
import com.sun.source.tree.NewArrayTree;
import com.sun.source.tree.NewClassTree;
import com.sun.source.tree.Tree;
import com.sun.source.util.JavacTask;
import com.sun.source.util.TreePathScanner;
import com.sun.source.util.Trees;
import java.nio.file.Path;
import java.util.ArrayList;
import java.util.HashSet;
import java.util.List;
import java.util.Map;
import java.util.Set;
import java.util.TreeMap;
import java.util.TreeSet;
import javax.lang.model.element.Element;
import javax.lang.model.element.ElementKind;
import javax.lang.model.element.Modifier;
import javax.lang.model.element.TypeElement;
import javax.tools.JavaCompiler;
import javax.tools.StandardJavaFileManager;
import javax.tools.ToolProvider;

/**
 * The rules of LANGUAGE.md that the compiler's own tree of the class can tell: what of the library is used (4),
 * what is static (5), how deep calls go (11), and that nothing is made but with an object (12).
 */
public final class CallsTest extends TreePathScanner<Void, Void> {
  private static final Path SOURCE = Path.of("src/main/java/RingSign.java");
  /** Of the library, what rule 4 names and the class needs; "length" is an array's. */
  private static final Set<String> LIBRARY = Set.of("Arrays.fill", "Integer.bitCount", "Math.max", "Math.min", "System.arraycopy",
      "String.length", "String.charAt", "String.indexOf", "Object.<init>", "Array.length");
  private static final int DEEPEST = 8;

  private final Trees trees;
  /** Whom each method calls; a method is its class's name and its own. */
  private final Map<String, Set<String>> calls = new TreeMap<>();
  private String method = "";
  private boolean making;

  private CallsTest(Trees trees) { this.trees = trees; }

  public static void main(String[] args) throws Exception {
    JavaCompiler compiler = ToolProvider.getSystemJavaCompiler();
    try (StandardJavaFileManager files = compiler.getStandardFileManager(null, null, null)) {
      JavacTask task = (JavacTask) compiler.getTask(null, files, null, List.of("-proc:none"), null, files.getJavaFileObjects(SOURCE));
      Iterable<? extends CompilationUnitTree> units = task.parse();
      task.analyze();
      CallsTest test = new CallsTest(Trees.instance(task));
      test.scan(units, null);
      test.depths();
    }
    Check.end();
  }

  private static String name(Element e) {
    return e.getEnclosingElement().getSimpleName() + "." + e.getSimpleName();
  }

  private static boolean isOwn(Element e) {
    Element at = e;
    while (at != null && !at.getSimpleName().contentEquals("RingSign")) at = at.getEnclosingElement();
    return at != null;
  }

  @Override
  public Void visitMethod(MethodTree node, Void none) {
    Element e = trees.getElement(getCurrentPath());
    method = name(e);
    making = e.getKind() == ElementKind.CONSTRUCTOR;
    calls.computeIfAbsent(method, m -> new TreeSet<>());
    super.visitMethod(node, none);
    method = "";
    making = false;
    return null;
  }

  @Override
  public Void visitIdentifier(IdentifierTree node, Void none) {
    use(trees.getElement(getCurrentPath()));
    return super.visitIdentifier(node, none);
  }

  @Override
  public Void visitMemberSelect(MemberSelectTree node, Void none) {
    use(trees.getElement(getCurrentPath()));
    return super.visitMemberSelect(node, none);
  }

  private void use(Element e) {
    boolean called = e != null && (e.getKind() == ElementKind.METHOD || e.getKind() == ElementKind.CONSTRUCTOR);
    if (!called && (e == null || e.getKind() != ElementKind.FIELD)) return;
    if (!isOwn(e)) Check.that("rule 4 names " + name(e), LIBRARY.contains(name(e)));
    if (called && !method.isEmpty()) calls.get(method).add(name(e));
  }

  @Override
  public Void visitNewClass(NewClassTree node, Void none) {
    Check.that("made with an object: " + node, method.isEmpty() || making);
    if (!method.isEmpty()) calls.get(method).add(node.getIdentifier() + ".<init>");
    return super.visitNewClass(node, none);
  }

  @Override
  public Void visitNewArray(NewArrayTree node, Void none) {
    Check.that("a row made with an object: " + node, method.isEmpty() || making);
    return super.visitNewArray(node, none);
  }

  /** The constant rows are never changed, and no text is joined by +. */
  @Override
  public Void visitAssignment(AssignmentTree node, Void none) {
    String to = node.getVariable().toString();
    Check.that("a constant is changed: " + node, !to.matches("[A-Z][A-Z_]+(\\[.*)?"));
    return super.visitAssignment(node, none);
  }

  @Override
  public Void visitBinary(BinaryTree node, Void none) {
    String type = String.valueOf(trees.getTypeMirror(getCurrentPath()));
    Check.that("a text joined by +: " + node, node.getKind() != Tree.Kind.PLUS || !type.contains("String"));
    return super.visitBinary(node, none);
  }

  @Override
  public Void visitClass(ClassTree node, Void none) {
    TypeElement type = (TypeElement) trees.getElement(getCurrentPath());
    for (Element e : type.getEnclosedElements()) {
      if (e.getKind() == ElementKind.FIELD && e.getModifiers().contains(Modifier.STATIC)) {
        Check.that("static and final: " + e, e.getModifiers().contains(Modifier.FINAL));
        Check.that("a constant's type: " + e, e.asType().toString().matches("int|long|boolean|char|java.lang.String|(int|long|char|byte)\\[\\]"));
      }
    }
    return super.visitClass(node, none);
  }

  /** A method that calls itself, or comes back to itself, is counted once. */
  private void depths() {
    Check.that("methods are told", calls.size() > 100 && calls.containsKey("Reader.readAtom"));
    for (String from : calls.keySet()) {
      List<String> longest = longest(from, new HashSet<>(Set.of(from)));
      Check.that("at most " + DEEPEST + " deep: " + longest, longest.size() <= DEEPEST);
    }
  }

  private List<String> longest(String from, Set<String> open) {
    List<String> best = List.of();
    for (String to : calls.getOrDefault(from, Set.of())) {
      if (open.add(to)) {
        List<String> behind = longest(to, open);
        if (behind.size() > best.size()) best = behind;
        open.remove(to);
      }
    }
    List<String> all = new ArrayList<>(List.of(from));
    all.addAll(best);
    return all;
  }
}
