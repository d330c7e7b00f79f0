import com.sun.source.tree.AssertTree;
import com.sun.source.tree.BinaryTree;
import com.sun.source.tree.ClassTree;
import com.sun.source.tree.CompilationUnitTree;
import com.sun.source.tree.CompoundAssignmentTree;
import com.sun.source.tree.ForLoopTree;
import com.sun.source.tree.LambdaExpressionTree;
import com.sun.source.tree.LiteralTree;
import com.sun.source.tree.MemberReferenceTree;
import com.sun.source.tree.MethodInvocationTree;
import com.sun.source.tree.MethodTree;
import com.sun.source.tree.NewClassTree;
import com.sun.source.tree.SynchronizedTree;
import com.sun.source.tree.ThrowTree;
import com.sun.source.tree.Tree;
import com.sun.source.tree.TryTree;
import com.sun.source.tree.VariableTree;
import com.sun.source.tree.WhileLoopTree;
import com.sun.source.util.JavacTask;
import com.sun.source.util.TreePath;
import com.sun.source.util.TreePathScanner;
import com.sun.source.util.Trees;
import java.io.IOException;
import java.lang.reflect.Constructor;
import java.lang.reflect.Field;
import java.lang.reflect.Method;
import java.lang.reflect.Modifier;
import java.nio.file.Files;
import java.nio.file.Path;
import java.util.HashMap;
import java.util.HashSet;
import java.util.List;
import java.util.Map;
import java.util.Set;
import java.util.TreeSet;
import javax.lang.model.element.Element;
import javax.lang.model.element.ElementKind;
import javax.lang.model.element.ExecutableElement;
import javax.lang.model.element.TypeElement;
import javax.lang.model.type.TypeKind;
import javax.lang.model.type.TypeMirror;
import javax.tools.JavaCompiler;
import javax.tools.StandardJavaFileManager;
import javax.tools.ToolProvider;

/** The face of the document, and the rules of LANGUAGE.md that can be seen in the program's text. */
public final class LanguageTest {
  private static final Path FILE = Path.of("src/main/java/DonorParts.java");
  private static final Set<String> METHODS = Set.of("int thing(int,int,int,int)", "int fixer(int,int)",
      "int drawer(int,int)", "int giveUp(int)", "int pass(int)", "int ofThing(int,int)", "int ofFixer(int,int)",
      "int ofPart(int,int)", "int count(int)", "int scarcest()", "int doneIn(int)", "int withFixer(int,int,int)",
      "int bestCare(int)", "int put(long)", "int wipe()", "int fault()", "int carryOut()", "int undo()",
      "int save(int)", "int restore(int)");
  private static final Set<String> CONSTANTS =
      Set.of("NO_SUCH", "BAD_VALUE", "BAD_TEXT", "TOO_MANY", "NOT_POSSIBLE", "NONE");
  private static final int LONGEST_METHOD = 60, MOST_CLASSES = 12, MOST_FIELDS = 20, MOST_PARAMETERS = 7, DEEPEST = 8;
  /** Rule 4: what may be called in the library. Lists and texts are asked for by the whole class, less what it leaves out. */
  private static final Map<String, Set<String>> LIBRARY = Map.of(
      "java.lang.String", Set.of("length", "charAt", "isEmpty", "equals", "indexOf", "substring", "toCharArray"),
      "java.lang.StringBuilder",
      Set.of("append", "charAt", "setCharAt", "setLength", "deleteCharAt", "reverse", "length", "toString"),
      "java.util.ArrayList", Set.of("add", "get", "set", "remove", "size", "isEmpty", "clear"),
      "java.util.List", Set.of("add", "get", "set", "remove", "size", "isEmpty", "clear", "of"),
      "java.util.Iterator", Set.of("hasNext", "next"), "java.lang.System", Set.of("arraycopy"),
      "java.util.Arrays", Set.of("copyOf", "copyOfRange", "fill"));
  private static final Set<String> FIGURES = Set.of("java.lang.Math", "java.lang.Integer", "java.lang.Long");
  private static final Set<String> MADE = Set.of("java.lang.String", "java.lang.StringBuilder", "java.util.ArrayList");

  public static void main(String[] args) throws IOException {
    face();
    classesInside();
    signs();
    readTheText();
    Due.end();
  }

  /** Rule 1. */
  private static void face() {
    Class<?> c = DonorParts.class;
    Due.holds("public and final", Modifier.isPublic(c.getModifiers()) && Modifier.isFinal(c.getModifiers()));
    Due.is("one constructor", c.getDeclaredConstructors().length, 1);
    for (Constructor<?> made : c.getDeclaredConstructors()) {
      Due.holds("public, without arguments", Modifier.isPublic(made.getModifiers()) && made.getParameterCount() == 0);
    }
    Set<String> open = new TreeSet<>();
    Set<String> names = new TreeSet<>();
    for (Method method : c.getDeclaredMethods()) {
      if (!Modifier.isPrivate(method.getModifiers()) && !method.isSynthetic()) {
        open.add(signature(method));
        names.add(method.getName());
        Due.holds(method + " is public and not static",
            Modifier.isPublic(method.getModifiers()) && !Modifier.isStatic(method.getModifiers()));
      }
    }
    Due.holds("the methods of the face: " + open, open.equals(METHODS));
    for (Method method : c.getDeclaredMethods()) {
      if (Modifier.isPrivate(method.getModifiers())) {
        Due.holds(method + " bears no public name", !names.contains(method.getName()));
      }
    }
    Set<String> constants = new TreeSet<>();
    for (Field field : c.getDeclaredFields()) {
      if (!Modifier.isPrivate(field.getModifiers())) {
        constants.add(field.getName());
        Due.holds(field + " is a constant of the face", field.getType() == int.class
            && Modifier.isPublic(field.getModifiers()) && Modifier.isStatic(field.getModifiers()));
      }
    }
    Due.holds("the constants of the face: " + constants, constants.equals(CONSTANTS));
  }

  private static String signature(Method method) {
    StringBuilder text = new StringBuilder();
    for (Class<?> type : method.getParameterTypes()) {
      text.append(text.length() == 0 ? "" : ",").append(type.getName());
    }
    return method.getReturnType().getName() + " " + method.getName() + "(" + text + ")";
  }

  /** Rules 2, 5 and 11. */
  private static void classesInside() {
    Class<?>[] inside = DonorParts.class.getDeclaredClasses();
    Due.holds("not too many classes", inside.length < MOST_CLASSES);
    for (Class<?> c : inside) {
      Due.holds(c + " is static", Modifier.isStatic(c.getModifiers()));
      Due.holds(c + " is private or package-visible",
          !Modifier.isPublic(c.getModifiers()) && !Modifier.isProtected(c.getModifiers()));
      fields(c);
    }
    fields(DonorParts.class);
  }

  private static void fields(Class<?> c) {
    int own = 0;
    for (Field field : c.getDeclaredFields()) {
      if (Modifier.isStatic(field.getModifiers())) {
        Due.holds(field + " is final", Modifier.isFinal(field.getModifiers()));
      } else {
        own++;
      }
    }
    Due.holds(c + " has not too many fields", own <= MOST_FIELDS);
  }

  private static void signs() throws IOException {
    for (byte sign : Files.readAllBytes(FILE)) {
      if (sign <= 0) {
        Due.holds("signs of 1 to 127 alone", false);
      }
    }
  }

  private static void readTheText() throws IOException {
    JavaCompiler compiler = ToolProvider.getSystemJavaCompiler();
    try (StandardJavaFileManager files = compiler.getStandardFileManager(null, null, null)) {
      JavacTask task = (JavacTask) compiler.getTask(null, files, null, List.of("-proc:none"), null,
          files.getJavaFileObjects(FILE));
      Reader reader = null;
      for (CompilationUnitTree unit : task.parse()) {
        task.analyze();
        reader = new Reader(Trees.instance(task), unit);
        Due.holds("no package line", unit.getPackageName() == null);
        reader.scan(unit, null);
      }
      Due.holds("the text was read", reader != null && reader.methods > METHODS.size());
      if (reader != null) {
        reader.calls();
      }
    }
  }

  /** Goes through the whole text, and keeps which method calls which. */
  private static final class Reader extends TreePathScanner<Void, Void> {
    private final Trees trees;
    private final CompilationUnitTree unit;
    private final Map<Element, Set<Element>> called = new HashMap<>();
    private Element inside = null;
    private int methods = 0;

    Reader(Trees trees, CompilationUnitTree unit) {
      this.trees = trees;
      this.unit = unit;
    }

    private void never(String what, Tree tree) {
      Due.holds("no " + what + " in line " + line(tree), false);
    }

    private long line(Tree tree) {
      return unit.getLineMap().getLineNumber(trees.getSourcePositions().getStartPosition(unit, tree));
    }

    private Element elementOf(Tree tree) {
      return trees.getElement(new TreePath(getCurrentPath(), tree));
    }

    @Override
    public Void visitMethod(MethodTree method, Void none) {
      methods++;
      long end = unit.getLineMap().getLineNumber(trees.getSourcePositions().getEndPosition(unit, method));
      Due.holds(method.getName() + " is short", end - line(method) < LONGEST_METHOD);
      Due.holds(method.getName() + " has not too many parameters", method.getParameters().size() <= MOST_PARAMETERS);
      String name = method.getName().toString();
      Due.holds("no " + name + " of its own", !Set.of("equals", "hashCode", "toString", "finalize").contains(name));
      inside = trees.getElement(getCurrentPath());
      called.putIfAbsent(inside, new HashSet<>());
      super.visitMethod(method, none);
      inside = null;
      return null;
    }

    /** Rule 4, and the calls among the program's own methods. */
    @Override
    public Void visitMethodInvocation(MethodInvocationTree call, Void none) {
      Element method = elementOf(call.getMethodSelect());
      String owner = ((TypeElement) method.getEnclosingElement()).getQualifiedName().toString();
      String name = method.getSimpleName().toString();
      if (owner.startsWith("DonorParts")) {
        Due.holds("a call inside a method, in line " + line(call), inside != null);
        called.computeIfAbsent(inside, key -> new HashSet<>()).add(method);
      } else if (!name.equals("<init>")) {
        boolean figures = FIGURES.contains(owner) && !name.endsWith("Exact") && ofFigures((ExecutableElement) method);
        boolean listed = LIBRARY.getOrDefault(owner, Set.of()).contains(name);
        Due.holds(owner + "." + name + " may be called", figures || listed || name.equals("clone"));
      }
      return super.visitMethodInvocation(call, none);
    }

    private static boolean ofFigures(ExecutableElement method) {
      boolean figures = method.getReturnType().getKind().isPrimitive();
      for (Element parameter : method.getParameters()) {
        TypeKind kind = parameter.asType().getKind();
        figures &= kind == TypeKind.INT || kind == TypeKind.LONG;
      }
      return figures;
    }

    /** Rules 3 and 4. */
    @Override
    public Void visitNewClass(NewClassTree made, Void none) {
      String type = trees.getTypeMirror(new TreePath(getCurrentPath(), made.getIdentifier())).toString();
      String plain = type.replaceAll("<.*", "");
      Due.holds("a new " + plain + " may be made", plain.startsWith("DonorParts.") || MADE.contains(plain));
      if (made.getClassBody() != null) {
        never("anonymous class", made);
      }
      return super.visitNewClass(made, none);
    }

    /** Rule 3. */
    @Override
    public Void visitVariable(VariableTree variable, Void none) {
      TypeMirror type = trees.getTypeMirror(getCurrentPath());
      String plain = type.toString().replaceAll("<.*|\\[\\]", "");
      boolean known = plain.startsWith("DonorParts.")
          || Set.of("int", "long", "short", "byte", "char", "boolean", "double", "float", "java.lang.String",
              "java.lang.StringBuilder", "java.lang.Integer", "java.util.ArrayList", "java.util.List",
              "java.util.Iterator").contains(plain);
      Due.holds(variable.getName() + " is of a type that may be used: " + type, known);
      return super.visitVariable(variable, none);
    }

    @Override
    public Void visitClass(ClassTree type, Void none) {
      Element around = inside;
      if (around != null) {
        never("class in a method", type);
      }
      Element element = trees.getElement(getCurrentPath());
      for (Element member : element.getEnclosedElements()) {
        Due.holds("no static initialiser", member.getKind() != ElementKind.STATIC_INIT);
      }
      return super.visitClass(type, none);
    }

    @Override
    public Void visitLiteral(LiteralTree literal, Void none) {
      if (literal.getValue() instanceof String text) {
        for (char sign : text.toCharArray()) {
          Due.holds("a sign of 1 to 127 in line " + line(literal), sign >= 1 && sign <= 127);
        }
      }
      return super.visitLiteral(literal, none);
    }

    /** Rule 10: texts are joined by StringBuilder. */
    @Override
    public Void visitBinary(BinaryTree both, Void none) {
      joined(both, both.getLeftOperand(), both.getRightOperand());
      return super.visitBinary(both, none);
    }

    @Override
    public Void visitCompoundAssignment(CompoundAssignmentTree both, Void none) {
      joined(both, both.getVariable(), both.getExpression());
      return super.visitCompoundAssignment(both, none);
    }

    private void joined(Tree whole, Tree left, Tree right) {
      for (Tree side : List.of(left, right)) {
        TypeMirror type = trees.getTypeMirror(new TreePath(getCurrentPath(), side));
        if (type != null && type.toString().equals("java.lang.String")) {
          never("sign between texts", whole);
        }
      }
    }

    /** Rule 9, as far as it can be seen at once. */
    @Override
    public Void visitForLoop(ForLoopTree loop, Void none) {
      if (loop.getCondition() == null) {
        never("loop without a bound", loop);
      }
      return super.visitForLoop(loop, none);
    }

    @Override
    public Void visitWhileLoop(WhileLoopTree loop, Void none) {
      if (loop.getCondition().toString().equals("(true)")) {
        never("loop without a bound", loop);
      }
      return super.visitWhileLoop(loop, none);
    }

    @Override
    public Void visitThrow(ThrowTree tree, Void none) {
      never("throw", tree);
      return null;
    }

    @Override
    public Void visitTry(TryTree tree, Void none) {
      never("try", tree);
      return null;
    }

    @Override
    public Void visitSynchronized(SynchronizedTree tree, Void none) {
      never("synchronized", tree);
      return null;
    }

    @Override
    public Void visitAssert(AssertTree tree, Void none) {
      never("assert", tree);
      return null;
    }

    @Override
    public Void visitLambdaExpression(LambdaExpressionTree tree, Void none) {
      never("lambda", tree);
      return null;
    }

    @Override
    public Void visitMemberReference(MemberReferenceTree tree, Void none) {
      never("method reference", tree);
      return null;
    }

    /** Rule 11: calls go at most eight deep. The program has no recursion, which rule 8 would leave it. */
    void calls() {
      int deepest = 0;
      for (Element method : called.keySet()) {
        deepest = Math.max(deepest, depth(method, 1));
      }
      Due.holds("calls go " + deepest + " deep", deepest <= DEEPEST);
    }

    private int depth(Element method, int level) {
      int deepest = level;
      if (level > DEEPEST) {
        return level;
      }
      for (Element next : called.getOrDefault(method, Set.of())) {
        deepest = Math.max(deepest, depth(next, level + 1));
      }
      return deepest;
    }
  }
}
