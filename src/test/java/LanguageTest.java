import java.io.IOException;
import java.lang.reflect.Constructor;
import java.lang.reflect.Field;
import java.lang.reflect.Method;
import java.lang.reflect.Modifier;
import java.nio.charset.StandardCharsets;
import java.nio.file.Files;
import java.nio.file.Path;
import java.util.Set;
import java.util.TreeSet;
import java.util.regex.Matcher;
import java.util.regex.Pattern;

/** The face of the document, and the rules of LANGUAGE.md that can be seen from outside or word by word. */
public final class LanguageTest {
  private static final Set<String> METHODS = Set.of("int thing(int,int,int,int)", "int fixer(int,int)",
      "int drawer(int,int)", "int giveUp(int)", "int pass(int)", "int ofThing(int,int)", "int ofFixer(int,int)",
      "int ofPart(int,int)", "int count(int)", "int scarcest()", "int doneIn(int)", "int withFixer(int,int,int)",
      "int bestCare(int)", "int put(long)", "int wipe()", "int fault()", "int carryOut()", "int undo()",
      "int save(int)", "int restore(int)");
  private static final Set<String> CONSTANTS =
      Set.of("NO_SUCH", "BAD_VALUE", "BAD_TEXT", "TOO_MANY", "NOT_POSSIBLE", "NONE");
  private static final int LONGEST_METHOD = 60, MOST_CLASSES = 12, MOST_FIELDS = 20;

  public static void main(String[] args) throws IOException {
    face();
    classesInside();
    String code = withoutComments(source());
    words(code);
    methodsAreShort(code);
    Due.end();
  }

  private static String source() throws IOException {
    return Files.readString(Path.of("src/main/java/DonorParts.java"), StandardCharsets.ISO_8859_1);
  }

  private static String withoutComments(String source) {
    return source.replaceAll("(?s)/\\*.*?\\*/", " ").replaceAll("//[^\n]*", " ");
  }

  private static void face() {
    Class<?> c = DonorParts.class;
    Due.holds("public and final", Modifier.isPublic(c.getModifiers()) && Modifier.isFinal(c.getModifiers()));
    Due.is("one constructor", c.getDeclaredConstructors().length, 1);
    for (Constructor<?> made : c.getDeclaredConstructors()) {
      Due.holds("public, without arguments", Modifier.isPublic(made.getModifiers()) && made.getParameterCount() == 0);
    }
    Set<String> open = new TreeSet<>();
    Set<String> names = new TreeSet<>();
    for (Method method : c.getDeclaredMethods()) {
      if (!Modifier.isPrivate(method.getModifiers())) {
        open.add(signature(method));
        names.add(method.getName());
        Due.holds(method + " is public and not static",
            Modifier.isPublic(method.getModifiers()) && !Modifier.isStatic(method.getModifiers()));
      }
    }
    Due.holds("the methods of the face: " + open, open.equals(METHODS));
    for (Method method : c.getDeclaredMethods()) {
      if (Modifier.isPrivate(method.getModifiers())) {
        Due.holds(method + " bears no public name", !names.contains(method.getName()));
      }
    }
    for (Field field : c.getDeclaredFields()) {
      boolean constant = CONSTANTS.contains(field.getName());
      Due.holds(field + " is private or of the face", constant == !Modifier.isPrivate(field.getModifiers()));
      Due.holds(field + " is final", Modifier.isFinal(field.getModifiers()));
    }
  }

  private static String signature(Method method) {
    StringBuilder text = new StringBuilder();
    for (Class<?> type : method.getParameterTypes()) {
      text.append(text.length() == 0 ? "" : ",").append(type.getName());
    }
    return method.getReturnType().getName() + " " + method.getName() + "(" + text + ")";
  }

  private static void classesInside() {
    Class<?>[] inside = DonorParts.class.getDeclaredClasses();
    Due.holds("not too many classes", inside.length < MOST_CLASSES);
    for (Class<?> c : inside) {
      Due.holds(c + " is static and not public",
          Modifier.isStatic(c.getModifiers()) && !Modifier.isPublic(c.getModifiers()));
      int fields = 0;
      for (Field field : c.getDeclaredFields()) {
        fields += Modifier.isStatic(field.getModifiers()) ? 0 : 1;
      }
      Due.holds(c + " has not too many fields", fields <= MOST_FIELDS);
      for (Method method : c.getDeclaredMethods()) {
        Due.holds(method + " has not too many parameters", method.getParameterCount() <= 7);
        Due.holds(method + " bears no name of the face",
            METHODS.stream().noneMatch(s -> s.contains(" " + method.getName() + "(")));
      }
    }
  }

  private static void words(String code) {
    String[] ruledOut = {"throw", "throws", "try", "catch", "finally", "synchronized", "assert", "import", "package",
        "protected", "volatile", "transient", "native", "var", "System", "Thread", "Object", "Exact", "hashCode",
        "toString", "yield"};
    for (String word : ruledOut) {
      Due.holds("no " + word, !Pattern.compile("\\b" + word + "\\b").matcher(code).find());
    }
    Due.holds("no lambda, no arrow", !code.contains("->"));
    Due.holds("no method reference", !code.contains("::"));
    Due.holds("no text", code.indexOf('"') < 0);
    for (int i = 0; i < code.length(); i++) {
      if (code.charAt(i) > 126) {
        Due.holds("signs of 1 to 126 alone, at " + i, false);
      }
    }
    Matcher loops = Pattern.compile("while \\(true\\)|for \\([^;]*;\\s*;").matcher(code);
    Due.holds("no loop without a bound", !loops.find());
  }

  private static void methodsAreShort(String code) {
    String[] lines = code.split("\n");
    int start = -1;
    String indent = "";
    for (int i = 0; i < lines.length; i++) {
      String line = lines[i];
      String own = line.substring(0, line.length() - line.stripLeading().length());
      if (start < 0 && line.endsWith(") {") && line.matches("\\s+(public |private |static )*[A-Za-z\\[\\]]+ ?\\w*\\(.*")
          && !line.matches("\\s+(if|for|while|switch|else)\\b.*")) {
        start = i;
        indent = own;
      } else if (start >= 0 && line.equals(indent + "}")) {
        Due.holds("a short method: " + lines[start].trim(), i - start < LONGEST_METHOD);
        start = -1;
      }
    }
    Due.is("all methods end", start, -1);
  }
}
