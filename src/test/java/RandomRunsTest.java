import java.lang.reflect.InvocationTargetException;
import java.lang.reflect.Method;
import java.util.Arrays;
import java.util.Map;
import java.util.TreeMap;

/**
 * Long runs of drawn calls on the class and on NaiveHall: each answer, and each exception, must be
 * the same. The draws follow from the run's number alone, so every run can be made again.
 */
public final class RandomRunsTest {
  private static final int RUNS = 120;
  private static final int CALLS = 511;
  private static final String[] STEPS = {
    "piece", "layer", "layer", "layer", "lay", "powder", "blend", "load", "load", "unload",
    "start", "start", "grow", "grow", "grow", "stop", "relieve", "saw", "press", "prove", "accept"
  };
  private static final String[] ASKS = {
    "ofPiece", "ofPiece", "ofPiece", "ofLayer", "ofPowder", "ofMachine", "warm", "warm", "measure",
    "recall", "many", "wouldHold", "bestWay", "bestSpeed"
  };
  /** Without these answers the runs would have passed by what they are to test. */
  private static final String[] MUST_BE_SEEN = {
    "load -2", "load -3", "saw true", "saw false", "prove true", "prove false",
    "accept 0", "accept 1", "accept 2", "accept 3", "clean 0", "clean 1", "clean 2",
    "piece IllegalStateException", "powder IllegalStateException", "struck"
  };

  private long seed;
  private final MeltPool hall = new MeltPool();
  private final NaiveHall naive = new NaiveHall();
  private final Map<String, Integer> seen;
  private final Check check;
  /** Runs with clean solids and few windows get further than those with drawn ones. */
  private final boolean tame;

  private RandomRunsTest(long number, Map<String, Integer> seen, Check check) {
    this.seed = number * 7919L + 17L;
    this.seen = seen;
    this.check = check;
    this.tame = number % 2 == 0;
  }

  public static void main(String[] args) throws ReflectiveOperationException {
    Check check = new Check();
    Map<String, Integer> seen = new TreeMap<>();
    for (long number = 0; number < RUNS; number++) {
      check.title("drawn run " + number);
      new RandomRunsTest(number, seen, check).run();
    }
    check.title("drawn runs");
    for (String answer : MUST_BE_SEEN) {
      check.due("\"" + answer + "\" seen", seen.containsKey(answer), true);
    }
    check.end();
  }

  private void run() throws ReflectiveOperationException {
    int calls = tame ? comeToSawn() : 0;
    for (int i = calls; i < CALLS; i++) {
      int draw = below(100);
      if (draw < 2) {
        make("digest");
      } else if (draw < 4) {
        make("clean");
      } else if (draw < 40) {
        make(ASKS[below(ASKS.length)]);
      } else {
        make(STEPS[below(STEPS.length)]);
      }
    }
    make("digest");
    if (hall.many(6) > 0) {
      seen.put("struck", 1);
    }
  }

  /** Four like pieces, some with flaws or stops, all sawn: drawn calls alone seldom come so far. */
  private int comeToSawn() throws ReflectiveOperationException {
    call("powder", 0, 2000);
    call("load", 0, 0);
    int calls = 2;
    for (int piece = 0; piece < 4; piece++) {
      call("piece");
      call("layer", piece, 0, 0xFFFFL);
      call("layer", piece, 1, below(2) == 0 ? 0xFFFFL : 0x010100000000FFFFL);
      call("start", 0, piece, 200, below(3) == 0 ? 6 : 5);
      int stops = below(4);
      for (int i = 0; i < stops; i++) {
        call("stop", 0);
      }
      call("grow", 0, 8);
      call("relieve", piece);
      call("saw", piece);
      calls += 7 + stops;
    }
    for (int i = 0; i < 16; i++) {
      make(i % 4 == 3 ? "accept" : "prove");
    }
    return calls + 16;
  }

  private void make(String name) throws ReflectiveOperationException {
    Object[] given = new Object[methodOf(MeltPool.class, name).getParameterCount()];
    for (int i = 0; i < given.length; i++) {
      given[i] = argument(name, i);
    }
    call(name, given);
  }

  private void call(String name, Object... given) throws ReflectiveOperationException {
    Method ours = methodOf(MeltPool.class, name);
    Object got = answer(ours, hall, given);
    check.due(name + Arrays.toString(given), got, answer(methodOf(NaiveHall.class, name), naive,
        given));
    seen.merge(name + " " + got, 1, Integer::sum);
  }

  private static Object answer(Method method, Object on, Object[] given)
      throws ReflectiveOperationException {
    try {
      return method.invoke(on, given);
    } catch (InvocationTargetException e) {
      return e.getCause().getClass().getSimpleName();
    }
  }

  private static Method methodOf(Class<?> type, String name) {
    for (Method method : type.getDeclaredMethods()) {
      if (method.getName().equals(name)) {
        return method;
      }
    }
    throw new IllegalArgumentException(name);
  }

  private Object argument(String name, int place) {
    switch (name + " " + place) {
      case "layer 2":
        return cells();
      case "layer 1":
      case "ofLayer 1":
        return around(0, tame ? 3 : 7);
      case "lay 1":
      case "wouldHold 1":
        return around(0, 5);
      case "powder 0":
        return around(0, below(3) == 0 ? 2 : 0);
      case "powder 1":
        return below(3) == 0 ? around(1, 60) : around(1000, 2000);
      case "blend 0":
      case "blend 1":
      case "load 1":
      case "ofPowder 0":
      case "recall 0":
        return around(0, 5);
      case "load 0":
      case "unload 0":
      case "clean 0":
      case "start 0":
      case "grow 0":
      case "stop 0":
      case "ofMachine 0":
      case "warm 0":
        return around(0, 1);
      case "start 2":
      case "bestSpeed 1":
        return tame ? new int[] {160, 200, 240, 160, 130, 49, 401}[below(7)] : around(50, 400);
      case "start 3":
        return tame ? new int[] {5, 5, 10, 10, 0, 21}[below(6)] : around(1, 20);
      case "grow 1":
        return around(1, 8);
      case "ofPiece 1":
        return around(0, 14);
      case "ofLayer 2":
        return around(0, 2);
      case "ofPowder 1":
      case "ofMachine 1":
        return around(0, 4);
      case "warm 1":
      case "warm 2":
        return around(0, 7);
      case "measure 1":
        return around(0, 1);
      case "many 0":
        return around(0, 7);
      default:
        return around(0, 3);
    }
  }

  /** Mostly one of least to most; at times one just beside them, or far away. */
  private int around(int least, int most) {
    int draw = below(40);
    if (draw == 0) {
      return least - 1;
    }
    if (draw == 1) {
      return most + 1;
    }
    if (draw == 2) {
      return below(2) == 0 ? Integer.MIN_VALUE : Integer.MAX_VALUE;
    }
    return least + below(most - least + 1);
  }

  private long cells() {
    switch (below(tame ? 4 : 8)) {
      case 0:
        return 0xFFFFL;
      case 1:
        return 0xFFFFFFL;
      case 2:
        return 0x3C3C3C3C0000L;
      case 3:
        return 0x3C3C3C3C0001L;
      case 4:
        return bits() & bits() & bits() & bits();
      case 5:
        return bits() | bits();
      case 6:
        return 0L;
      default:
        return bits();
    }
  }

  private long bits() {
    return (long) below(1 << 22) << 42 ^ (long) below(1 << 22) << 21 ^ below(1 << 22);
  }

  private int below(int bound) {
    seed = seed * 6364136223846793005L + 1442695040888963407L;
    return (int) Long.remainderUnsigned(seed >>> 33, bound);
  }
}
