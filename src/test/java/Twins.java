import java.util.NoSuchElementException;
import java.util.function.Consumer;
import java.util.function.Supplier;

/**
 * A refused call changes nothing: of two desks that are made alike one is refused a call, and then
 * both answer alike, at once and behind calls that bring to light what is held inside.
 */
final class Twins {
  private static final int IMAGE = 512;
  private static final int PEEKS = IMAGE + 256;
  private static final int REGISTERS = PEEKS + 13;
  private static final int PACKED = REGISTERS + 20;
  private static final int BYTES_SENT = PACKED + 100;
  private static final int LOOKS = BYTES_SENT + 3;
  /** Looks at one pair of desks; an object is good for 512 calls, its making among them. */
  private static final int LOOKS_OF_A_PAIR = 300;

  private static final int FOLLOW_UPS = 5;

  private final Check check;
  private final Supplier<CartridgeDesk> maker;

  Twins(Check check, Supplier<CartridgeDesk> maker) {
    this.check = check;
    this.maker = maker;
  }

  void argument(String call, Consumer<CartridgeDesk> wrong) {
    refused(call, wrong, IllegalArgumentException.class);
  }

  void state(String call, Consumer<CartridgeDesk> wrong) {
    refused(call, wrong, IllegalStateException.class);
  }

  void none(String call, Consumer<CartridgeDesk> wrong) {
    refused(call, wrong, NoSuchElementException.class);
  }

  private void refused(
      String call, Consumer<CartridgeDesk> wrong, Class<? extends RuntimeException> want) {
    for (int followUp = 0; followUp < FOLLOW_UPS; followUp++) {
      for (int from = 0; from < LOOKS; from += LOOKS_OF_A_PAIR) {
        CartridgeDesk one = maker.get();
        CartridgeDesk other = maker.get();
        check.refused(call, () -> wrong.accept(one), want);
        follow(one, followUp);
        follow(other, followUp);
        int to = Math.min(from + LOOKS_OF_A_PAIR, LOOKS);
        for (int k = from; k < to; k++) {
          check.due("behind " + call + ": look " + k, look(one, k), look(other, k));
        }
      }
    }
  }

  private static void follow(CartridgeDesk desk, int followUp) {
    switch (followUp) {
      case 1:
        quietly(() -> desk.run(6));
        break;
      case 2:
        quietly(() -> desk.link(8));
        break;
      case 3:
        quietly(() -> desk.bytes(0x7b, 1));
        quietly(() -> desk.link(8));
        break;
      case 4:
        quietly(() -> desk.section(3));
        quietly(() -> desk.bytes(0x7b, 1));
        quietly(() -> desk.link(8));
        break;
      default:
        break;
    }
  }

  private static void quietly(Runnable call) {
    try {
      call.run();
    } catch (RuntimeException e) {
      // Both desks refuse it, or the looks behind it differ.
    }
  }

  private static int look(CartridgeDesk desk, int k) {
    try {
      return answer(desk, k);
    } catch (NoSuchElementException e) {
      return CartridgeDesk.NONE;
    }
  }

  private static int answer(CartridgeDesk desk, int k) {
    if (k < IMAGE) {
      return desk.image(k);
    }
    if (k < PEEKS) {
      return desk.peek(k - IMAGE);
    }
    if (k < REGISTERS) {
      return desk.register(k - PEEKS);
    }
    if (k < PACKED) {
      return desk.packed((k - REGISTERS) / 2, (k - REGISTERS) % 2);
    }
    if (k < BYTES_SENT) {
      return desk.byteSent(k - PACKED);
    }
    if (k == BYTES_SENT) {
      return desk.state();
    }
    return k == BYTES_SENT + 1 ? desk.sent() : desk.valid();
  }
}
