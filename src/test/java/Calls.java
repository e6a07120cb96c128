import java.util.NoSuchElementException;

/** The calls of the document's face by numbers, so that a test can choose them by chance. */
interface Calls {
  int SECTION = 0;
  int BYTES = 1;
  int MENDED = 2;
  int CLEAR = 3;
  int LINK = 4;
  int PACKED = 5;
  int IMAGE = 6;
  int SPOIL = 7;
  int VALID = 8;
  int RESTART = 9;
  int RAISE = 10;
  int RUN = 11;
  int STATE = 12;
  int REGISTER = 13;
  int PEEK = 14;
  int SENT = 15;
  int BYTE_SENT = 16;
  int COUNT = 17;

  /** Told instead of an answer, where a call throws; far from all that a call might answer. */
  int WRONG_ARGUMENT = -1_000_001;
  int WRONG_STATE = -1_000_002;
  int NO_SUCH = -1_000_003;

  /** Arguments that the call does not take are left alone; one without an answer answers 0. */
  int call(int method, int x, int y);

  default int answer(int method, int x, int y) {
    try {
      return call(method, x, y);
    } catch (IllegalArgumentException e) {
      return WRONG_ARGUMENT;
    } catch (IllegalStateException e) {
      return WRONG_STATE;
    } catch (NoSuchElementException e) {
      return NO_SUCH;
    }
  }

  static Calls of(CartridgeDesk desk) {
    return (method, x, y) -> method < VALID ? make(desk, method, x, y) : play(desk, method, x);
  }

  private static int make(CartridgeDesk desk, int method, int x, int y) {
    switch (method) {
      case SECTION:
        return desk.section(x);
      case BYTES:
        desk.bytes(x, y);
        return 0;
      case MENDED:
        desk.mended(x, y);
        return 0;
      case CLEAR:
        desk.clear();
        return 0;
      case LINK:
        return desk.link(x);
      case PACKED:
        return desk.packed(x, y);
      case IMAGE:
        return desk.image(x);
      default:
        desk.spoil(x, y);
        return 0;
    }
  }

  private static int play(CartridgeDesk desk, int method, int x) {
    switch (method) {
      case VALID:
        return desk.valid();
      case RESTART:
        desk.restart();
        return 0;
      case RAISE:
        desk.raise(x);
        return 0;
      case RUN:
        return desk.run(x);
      case STATE:
        return desk.state();
      case REGISTER:
        return desk.register(x);
      case PEEK:
        return desk.peek(x);
      case SENT:
        return desk.sent();
      default:
        return desk.byteSent(x);
    }
  }
}
