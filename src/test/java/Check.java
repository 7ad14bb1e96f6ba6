import java.util.Objects;

/** Counts the answers that are not as due, and prints each of them. */
final class Check {
  private String title = "";
  private int wrong;

  void title(String text) {
    title = text;
  }

  void due(String call, Object got, Object want) {
    if (!Objects.equals(got, want)) {
      wrong++;
      System.out.println(title + ": " + call + " answered " + got + ", due is " + want);
    }
  }

  /** The call must throw just this exception, and change nothing that the digest sees. */
  void refused(String call, MeltPool hall, Class<? extends RuntimeException> want, Runnable made) {
    long before = hall.digest();
    Object got = "nothing";
    try {
      made.run();
    } catch (RuntimeException e) {
      got = e.getClass();
    }
    due(call + " throws", got, want);
    due("digest after " + call, hall.digest(), before);
  }

  void end() {
    if (wrong != 0) {
      System.out.println(wrong + " answers are not as due");
      System.exit(1);
    }
  }
}
