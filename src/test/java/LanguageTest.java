import java.io.IOException;
import java.lang.reflect.Field;
import java.lang.reflect.Method;
import java.lang.reflect.Modifier;
import java.nio.file.Files;
import java.nio.file.Path;
import java.util.List;
import java.util.Set;
import java.util.regex.Matcher;
import java.util.regex.Pattern;

/**
 * The rules of ../shared/LANGUAGE.md that can be seen line by line or be counted; run from the
 * project's root.
 */
public final class LanguageTest {
  private static final String[] BARRED = {
    "->", "::", "\\bfinally\\b", "\\bsynchronized\\b", "\\bassert\\b", "\\bprotected\\b",
    "\\bfloat\\b", "\\bObject\\b", "\\bequals\\(", "\\bhashCode\\(", "\\btoString\\(", "Exact\\(",
    "static \\{", "^package ", "\\bcatch \\(", "[^\\x00-\\x7F]", "Math\\.(sqrt|pow|round|floor\\()",
    "^import (?!java\\.util\\.(Arrays|ArrayList|List|Iterator|NoSuchElementException);)",
    "\" \\+|\\+ \"", "\\bthrow (?!new \\w+Exception\\((\"[^\"]*\")?\\);)"
  };
  private static final Pattern HEAD =
      Pattern.compile("\\n( +)(?:[\\w\\[\\]]+ )*\\w+\\([^;{}]*\\)[^;{}()]*\\{\\n");
  private static final Set<Class<?>> CONSTANTS = Set.of(int.class, long.class, boolean.class,
      char.class, String.class, int[].class, long[].class, char[].class, byte[].class);
  private static final int MOST_LINES = 60;
  private static final int MOST_PARAMETERS = 7;
  private static final int MOST_CLASSES = 12;
  private static final int MOST_FIELDS = 20;

  private final Check check = new Check();

  public static void main(String[] args) throws IOException {
    LanguageTest test = new LanguageTest();
    String source = Files.readString(Path.of("src/main/java/MeltPool.java"));
    test.barredWords(List.of(source.split("\n")));
    test.lengths(source);
    test.check.title("classes");
    Class<?>[] inside = MeltPool.class.getDeclaredClasses();
    test.check.due("too many", inside.length + 1 > MOST_CLASSES, false);
    test.members(MeltPool.class);
    for (Class<?> one : inside) {
      test.check.due(one + " is private or package-visible",
          Modifier.isPublic(one.getModifiers()) || Modifier.isProtected(one.getModifiers()), false);
      test.members(one);
    }
    test.check.end();
  }

  private void barredWords(List<String> lines) {
    for (int i = 0; i < lines.size(); i++) {
      check.title("line " + (i + 1));
      for (String barred : BARRED) {
        check.due("has " + barred, Pattern.compile(barred).matcher(lines.get(i)).find(), false);
      }
    }
  }

  /** A method, or a constructor, goes on to the next closing brace as far in as its head is. */
  private void lengths(String source) {
    check.title("lengths");
    Matcher head = HEAD.matcher(source);
    int methods = 0;
    for (int from = 0; head.find(from); from = head.end() - 1) {
      methods++;
      int end = source.indexOf("\n" + head.group(1) + "}\n", head.end() - 1);
      String whole = source.substring(head.start() + 1, end);
      check.due(head.group().trim() + " is too long", whole.split("\n").length + 1 > MOST_LINES,
          false);
    }
    check.due("methods were found", methods >= MeltPool.class.getDeclaredMethods().length, true);
  }

  private void members(Class<?> one) {
    check.title(one.getName());
    int fields = 0;
    for (Field field : one.getDeclaredFields()) {
      if (Modifier.isStatic(field.getModifiers())) {
        check.due(field + " is final", Modifier.isFinal(field.getModifiers()), true);
        check.due(field + " is a constant", CONSTANTS.contains(field.getType()), true);
      } else {
        fields++;
      }
    }
    check.due("too many fields", fields > MOST_FIELDS, false);
    for (Method method : one.getDeclaredMethods()) {
      check.due(method + " has too many parameters",
          method.getParameterCount() > MOST_PARAMETERS, false);
    }
  }
}
