import java.util.NoSuchElementException;
import java.util.Random;

/** Any calls in any order: only the document's exceptions, answers in range, twice the same. */
public final class FuzzTest {
  private static final Check check = new Check("FuzzTest");
  private static final int METHODS = 17;

  private FuzzTest() {}

  public static void main(String[] args) {
    for (int seed = 0; seed < 3000; seed++) {
      Random choice = new Random(seed);
      CartridgeDesk one = new CartridgeDesk();
      CartridgeDesk other = new CartridgeDesk();
      for (int k = 0; k < 500; k++) {
        int method = choice.nextInt(METHODS);
        int x = argument(choice);
        int y = argument(choice);
        check.due("call " + method, answer(one, method, x, y), answer(other, method, x, y));
      }
    }
    check.end();
  }

  private static int argument(Random choice) {
    int[] bounds = {3, 9, 12, 130, 260, 600};
    int which = choice.nextInt(bounds.length + 1);
    return which == bounds.length ? choice.nextInt() : choice.nextInt(bounds[which]) - 1;
  }

  private static long answer(CartridgeDesk desk, int method, int x, int y) {
    try {
      int got = call(desk, method, x, y);
      if (got < 0 || got > 1_100_000) {
        check.report("call " + method + " answered " + got);
      }
      return got;
    } catch (IllegalArgumentException e) {
      return allowed("IllegalArgumentException", method, method < 3 || method == 4 || method == 10);
    } catch (IllegalStateException e) {
      return allowed("IllegalStateException", method, method < 3 || method == 4);
    } catch (NoSuchElementException e) {
      boolean looks = method >= 4 && method <= 8 || method == 11 || method == 13 || method == 14;
      return allowed("NoSuchElementException", method, looks || method == 16);
    }
  }

  private static long allowed(String name, int method, boolean due) {
    if (!due) {
      check.report("call " + method + " threw " + name);
    }
    return -name.length();
  }

  private static int call(CartridgeDesk desk, int method, int x, int y) {
    switch (method) {
      case 0:
        return desk.section(x);
      case 1:
        desk.bytes(x * 16777619 + y, y & 7);
        return 0;
      case 2:
        desk.mended(x, y);
        return 0;
      case 3:
        if (x % 8 == 0) {
          desk.clear();
        }
        return 0;
      case 4:
        return desk.link(x);
      case 5:
        return desk.packed(x, y);
      case 6:
        return desk.image(x);
      case 7:
        desk.spoil(x, y);
        return 0;
      case 8:
        return desk.valid();
      case 9:
        desk.restart();
        return 0;
      case 10:
        desk.raise(x);
        return 0;
      case 11:
        return desk.run(x);
      case 12:
        return desk.state();
      case 13:
        return desk.register(x);
      case 14:
        return desk.peek(x);
      case 15:
        return desk.sent();
      default:
        return desk.byteSent(x);
    }
  }
}
