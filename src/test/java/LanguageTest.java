import java.io.IOException;
import java.nio.file.Files;
import java.nio.file.Path;
import java.util.List;
import java.util.regex.Pattern;

/** The rules of ../shared/LANGUAGE.md that can be seen line by line; run from the project's root. */
public final class LanguageTest {
  private static final String[] BARRED = {
    "->", "::", "\\bfinally\\b", "\\bsynchronized\\b", "\\bassert\\b", "\\bprotected\\b",
    "\\bfloat\\b", "\\bObject\\b", "\\bequals\\(", "\\bhashCode\\(", "\\btoString\\(", "Exact\\(",
    "static \\{", "^package ", "\\bcatch \\(", "[^\\x00-\\x7F]", "Math\\.(sqrt|pow|round|floor\\()",
    "^import (?!java\\.util\\.(Arrays|ArrayList|List|Iterator|NoSuchElementException);)"
  };

  public static void main(String[] args) throws IOException {
    Check check = new Check();
    List<String> lines = Files.readAllLines(Path.of("src/main/java/MeltPool.java"));
    for (int i = 0; i < lines.size(); i++) {
      check.title("line " + (i + 1));
      for (String barred : BARRED) {
        check.due("has " + barred, Pattern.compile(barred).matcher(lines.get(i)).find(), false);
      }
    }
    check.end();
  }
}
