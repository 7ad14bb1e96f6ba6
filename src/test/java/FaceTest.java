import java.lang.reflect.Constructor;
import java.lang.reflect.Method;
import java.lang.reflect.Modifier;
import java.util.Set;
import java.util.TreeSet;

/** The members that others can see are those of the document's face, and no others. */
public final class FaceTest {
  private static final String ISE = " throws IllegalStateException";
  private static final String IOB = " throws IndexOutOfBoundsException";
  private static final String IAE = " throws IllegalArgumentException";
  private static final String[] FACE = {
    "int piece()" + ISE,
    "int layer(int,int,long)" + IOB + ISE,
    "int lay(int,int)" + IOB + IAE + ISE,
    "int powder(int,int)" + IAE + ISE,
    "int blend(int,int)" + IOB + IAE + ISE,
    "int load(int,int)" + IOB + ISE,
    "int unload(int)" + IOB + ISE,
    "int clean(int)" + IOB,
    "int start(int,int,int,int)" + IOB + IAE + ISE,
    "int grow(int,int)" + IOB + IAE + ISE,
    "int stop(int)" + IOB + ISE,
    "int relieve(int)" + IOB + ISE,
    "boolean saw(int)" + IOB + ISE,
    "int press(int)" + IOB + ISE,
    "boolean prove(int)" + IOB + ISE,
    "int accept(int)" + IOB + ISE,
    "int ofPiece(int,int)" + IOB + IAE,
    "long ofLayer(int,int,int)" + IOB + IAE,
    "int ofPowder(int,int)" + IOB + IAE,
    "int ofMachine(int,int)" + IOB + IAE,
    "double warm(int,int,int)" + IOB,
    "double measure(int,int)" + IOB + IAE,
    "int recall(int)" + IOB,
    "int many(int)" + IAE,
    "int wouldHold(int,int)" + IOB + IAE,
    "int bestWay(int)" + IOB,
    "int bestSpeed(int,int)" + IOB + IAE,
    "long digest()",
  };

  public static void main(String[] args) {
    Check check = new Check();
    check.title("face");
    Set<String> got = new TreeSet<>();
    Set<String> hidden = new TreeSet<>();
    Set<String> names = new TreeSet<>();
    for (Method method : MeltPool.class.getDeclaredMethods()) {
      if (Modifier.isPrivate(method.getModifiers())) {
        hidden.add(method.getName());
      } else {
        got.add(told(method));
        names.add(method.getName());
      }
    }
    check.due("methods", got, new TreeSet<>(Set.of(FACE)));
    hidden.retainAll(names);
    check.due("private methods with a public one's name", hidden, Set.of());
    for (var field : MeltPool.class.getDeclaredFields()) {
      check.due(field + " is private", Modifier.isPrivate(field.getModifiers()), true);
    }
    Constructor<?>[] made = MeltPool.class.getDeclaredConstructors();
    check.due("constructors", made.length, 1);
    check.due("constructor", made[0].toString(), "public MeltPool()");
    check.due("class", Modifier.toString(MeltPool.class.getModifiers()), "public final");
    check.end();
  }

  private static String told(Method method) {
    StringBuilder text = new StringBuilder();
    text.append(method.getReturnType().getSimpleName()).append(' ').append(method.getName());
    text.append('(');
    String comma = "";
    for (Class<?> type : method.getParameterTypes()) {
      text.append(comma).append(type.getSimpleName());
      comma = ",";
    }
    text.append(')');
    for (Class<?> type : method.getExceptionTypes()) {
      text.append(" throws ").append(type.getSimpleName());
    }
    return text.toString();
  }
}
