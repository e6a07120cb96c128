import java.util.NoSuchElementException;
import java.util.function.IntSupplier;

/** Counts answers that are not as due, prints them, and ends the test with exit code 1 for them. */
final class Check {
  private static final int MOST_PRINTED = 20;

  private final String name;
  private String sentence = "";
  private int sentences = 0;
  private int done = 0;
  private int wrong = 0;

  Check(String name) {
    this.name = name;
  }

  /** What follows tests these words of the document; what is not as due is printed with them. */
  void sentence(String words) {
    sentence = " [" + words + "]";
    sentences++;
  }

  void due(String call, long got, long want) {
    done++;
    if (got != want) {
      report(call + " answered " + got + ", due is " + want);
    }
  }

  void argument(String call, Runnable run) {
    refused(call, run, IllegalArgumentException.class);
  }

  void state(String call, Runnable run) {
    refused(call, run, IllegalStateException.class);
  }

  void none(String call, IntSupplier run) {
    refused(call, () -> run.getAsInt(), NoSuchElementException.class);
  }

  void refused(String call, Runnable run, Class<? extends RuntimeException> want) {
    done++;
    Class<?> got = null;
    try {
      run.run();
    } catch (RuntimeException e) {
      got = e.getClass();
    }
    if (got != want) {
      report(call + " threw " + got + ", due is " + want);
    }
  }

  void report(String text) {
    wrong++;
    if (wrong <= MOST_PRINTED) {
      System.out.println(name + ": " + text + sentence);
    }
  }

  void end() {
    String of = sentences == 0 ? "" : " of " + sentences + " sentences";
    System.out.println(name + ": " + done + " answers" + of + ", " + wrong + " not as due");
    if (wrong != 0) {
      System.exit(1);
    }
  }
}
