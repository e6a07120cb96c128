import java.util.Random;

/** Any calls in any order: only the document's exceptions, answers in range, twice the same. */
public final class FuzzTest {
  private static final Check check = new Check("FuzzTest");
  private static final int RUNS = 3000;
  private static final int CALLS_OF_A_RUN = 512;
  /** So many bytes can be sent: 2000 with each call. */
  private static final int HIGHEST_ANSWER = CALLS_OF_A_RUN * 2000;

  private FuzzTest() {}

  public static void main(String[] args) {
    for (int seed = 0; seed < RUNS; seed++) {
      Random chance = new Random(seed);
      Calls one = Calls.of(new CartridgeDesk());
      Calls other = Calls.of(new CartridgeDesk());
      for (int k = 0; k < CALLS_OF_A_RUN; k++) {
        int method = method(chance);
        int x = argument(chance);
        int y = argument(chance);
        int answer = one.answer(method, x, y);
        check.due("call " + method + " as before", answer, other.answer(method, x, y));
        check.due("call " + method + " as said: " + answer, asSaid(method, answer) ? 1 : 0, 1);
      }
    }
    check.end();
  }

  /** A clear is called seldom, so that there are sections. */
  private static int method(Random chance) {
    int method = chance.nextInt(Calls.COUNT);
    return method == Calls.CLEAR && chance.nextInt(8) != 0 ? Calls.LINK : method;
  }

  private static int argument(Random chance) {
    int[] bounds = {3, 5, 9, 12, 130, 260, 600};
    int which = chance.nextInt(bounds.length + 1);
    return which == bounds.length ? chance.nextInt() : chance.nextInt(bounds[which]) - 1;
  }

  private static boolean asSaid(int method, int answer) {
    switch (answer) {
      case Calls.WRONG_ARGUMENT:
        return method <= Calls.MENDED || method == Calls.LINK || method == Calls.RAISE;
      case Calls.WRONG_STATE:
        return method <= Calls.MENDED || method == Calls.LINK;
      case Calls.NO_SUCH:
        boolean looks = method == Calls.REGISTER || method == Calls.PEEK;
        boolean plays = method == Calls.RUN || method == Calls.BYTE_SENT;
        return looks || plays || (method >= Calls.LINK && method <= Calls.VALID);
      default:
        return 0 <= answer && answer <= HIGHEST_ANSWER;
    }
  }
}
