import java.io.IOException;
import java.lang.reflect.InvocationTargetException;
import java.net.URL;
import java.net.URLClassLoader;
import java.nio.file.Files;
import java.nio.file.Path;
import java.util.ArrayList;
import java.util.List;
import java.util.regex.Matcher;
import java.util.regex.Pattern;
import javax.tools.ToolProvider;

/** The example of README.md answers what its comments say; run from the project's root. */
public final class ReadmeTest {
  private static final Pattern EXAMPLE = Pattern.compile("```java\n(.*?)```", Pattern.DOTALL);
  /** A call, and behind it a comment that begins with the answer. */
  private static final Pattern ANSWERED = Pattern.compile("(hall\\..*);\\s*// ([\\w.-]+)(:.*)?");

  public static void main(String[] args) throws IOException, ReflectiveOperationException {
    Check check = new Check();
    check.title("README.md");
    Matcher example = EXAMPLE.matcher(Files.readString(Path.of("README.md")));
    boolean found = example.find();
    check.due("has an example", found, true);
    if (found) {
      run(check, classOf(example.group(1)));
    }
    check.end();
  }

  /** A class whose method tells of each such call the call itself, its answer and the one due. */
  private static String classOf(String example) {
    StringBuilder code = new StringBuilder("public final class Example {\n");
    code.append("public static void run(java.util.List<Object[]> told) {\n");
    for (String line : example.split("\n")) {
      Matcher answered = ANSWERED.matcher(line);
      if (answered.matches()) {
        String call = answered.group(1);
        code.append("told.add(new Object[] {\"").append(call).append("\", ").append(call);
        code.append(", ").append(answered.group(2)).append("});\n");
      } else {
        code.append(line).append('\n');
      }
    }
    return code.append("}\n}\n").toString();
  }

  private static void run(Check check, String code)
      throws IOException, ReflectiveOperationException {
    Path place = Files.createTempDirectory("readme");
    Path file = place.resolve("Example.java");
    Files.writeString(file, code);
    int errors = ToolProvider.getSystemJavaCompiler().run(null, null, null, "-d", place.toString(),
        "-cp", System.getProperty("java.class.path"), file.toString());
    check.due("the compiler, of the example,", errors, 0);
    if (errors == 0) {
      compare(check, place);
    }
    Files.deleteIfExists(place.resolve("Example.class"));
    Files.delete(file);
    Files.delete(place);
  }

  private static void compare(Check check, Path place)
      throws IOException, ReflectiveOperationException {
    List<Object[]> told = new ArrayList<>();
    try (URLClassLoader loader = new URLClassLoader(new URL[] {place.toUri().toURL()})) {
      loader.loadClass("Example").getMethod("run", List.class).invoke(null, told);
    } catch (InvocationTargetException e) {
      check.due("the example", e.getCause(), "an end without an exception");
    }
    check.due("there are answers in the example", told.isEmpty(), false);
    for (Object[] call : told) {
      check.due((String) call[0], call[1], call[2]);
    }
  }
}
