import java.io.IOException;
import java.lang.reflect.Method;
import java.lang.reflect.Modifier;
import java.net.URI;
import java.net.URL;
import java.net.URLClassLoader;
import java.nio.file.Files;
import java.nio.file.Path;
import java.util.ArrayList;
import java.util.List;
import java.util.regex.Matcher;
import java.util.regex.Pattern;
import javax.tools.JavaCompiler;
import javax.tools.SimpleJavaFileObject;
import javax.tools.StandardJavaFileManager;
import javax.tools.ToolProvider;

/** Makes the calls that README.md shows, in its order, and compares their answers with those that it gives for them. */
public final class ReadmeTest {
  private static final Path PAGE = Path.of("README.md");
  private static final String NAME = "CallsOfThePage";
  private static final int LEAST_CALLS = 40;
  /** A call, and behind it its answer and what it means. */
  private static final Pattern CALL = Pattern.compile("(cafe\\.(\\w+)\\(.*\\));\\s+// (-?\\d+): \\S.*");
  private static final Pattern WITHOUT_ANSWER =
      Pattern.compile("DonorParts cafe = new DonorParts\\(\\);|write\\(cafe, \"[^\"]*\"\\);");

  private final List<String> calls = new ArrayList<>();
  private final List<String> methods = new ArrayList<>();
  private final List<Integer> due = new ArrayList<>();
  private final StringBuilder helpers = new StringBuilder();
  private final StringBuilder body = new StringBuilder();

  public static void main(String[] args) throws IOException, ReflectiveOperationException {
    ReadmeTest page = new ReadmeTest();
    page.read();
    page.showsEachMethod();
    int[] answers = page.answers();
    Due.is("answers", answers.length, page.due.size());
    for (int i = 0; i < answers.length; i++) {
      Due.is(page.calls.get(i), answers[i], page.due.get(i));
    }
    Due.holds("the page shows calls", answers.length >= LEAST_CALLS);
    Due.end();
  }

  /** Each part of the page in Java is either a helper or a row of calls on an object of its own. */
  private void read() throws IOException {
    boolean inJava = false;
    boolean inHelper = false;
    int number = 0;
    for (String line : Files.readAllLines(PAGE)) {
      number++;
      if (line.equals("```java")) {
        inJava = true;
        body.append("{\n");
      } else if (line.startsWith("```")) {
        if (inJava) {
          body.append("}\n");
        }
        inJava = false;
        inHelper = false;
      } else if (inJava) {
        inHelper |= line.startsWith("static ");
        if (inHelper) {
          helpers.append(line).append('\n');
        } else {
          shown(number, line);
        }
      }
    }
    Due.holds("the last part ends", !inJava);
  }

  private void shown(int number, String line) {
    Matcher call = CALL.matcher(line);
    if (call.matches()) {
      body.append("answers[").append(due.size()).append("] = ").append(call.group(1)).append(";\n");
      calls.add("README.md, line " + number + ", " + call.group(1));
      methods.add(call.group(2));
      due.add(Integer.parseInt(call.group(3)));
    } else {
      Due.holds("line " + number + " gives an answer: " + line, WITHOUT_ANSWER.matcher(line).matches());
      body.append(line).append('\n');
    }
  }

  private void showsEachMethod() {
    for (Method method : DonorParts.class.getDeclaredMethods()) {
      if (Modifier.isPublic(method.getModifiers())) {
        Due.holds("the page shows " + method.getName(), methods.contains(method.getName()));
      }
    }
  }

  private int[] answers() throws IOException, ReflectiveOperationException {
    String source = "public final class " + NAME + " {\n" + helpers + "public static int[] answers() {\nint[] answers = new int["
        + due.size() + "];\n" + body + "return answers;\n}\n}\n";
    Path out = Files.createTempDirectory("readme");
    try {
      Due.holds("the calls of the page compile", compiles(source, out));
      try (URLClassLoader loader = new URLClassLoader(new URL[] {out.toUri().toURL()})) {
        return (int[]) loader.loadClass(NAME).getMethod("answers").invoke(null);
      }
    } finally {
      Files.deleteIfExists(out.resolve(NAME + ".class"));
      Files.deleteIfExists(out);
    }
  }

  private static boolean compiles(String source, Path out) throws IOException {
    SimpleJavaFileObject file =
        new SimpleJavaFileObject(URI.create("string:///" + NAME + ".java"), SimpleJavaFileObject.Kind.SOURCE) {
          @Override
          public CharSequence getCharContent(boolean ignoreEncodingErrors) {
            return source;
          }
        };
    JavaCompiler compiler = ToolProvider.getSystemJavaCompiler();
    List<String> options = List.of("-d", out.toString(), "-cp", System.getProperty("java.class.path"), "-proc:none");
    try (StandardJavaFileManager files = compiler.getStandardFileManager(null, null, null)) {
      return compiler.getTask(null, files, null, options, null, List.of(file)).call();
    }
  }
}
