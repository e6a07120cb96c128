import java.util.Random;

/** All calls answer what the second reading of the document answers, by chance in any order. */
public final class SecondReadingTest {
  private static final Check check = new Check("SecondReadingTest");
  private static final int RUNS = 6000;
  private static final int CALLS_OF_A_RUN = 512;
  /** L becomes 254, the byte there 15: without it lines are raised in vain. */
  private static final int MASK_BECOMES_15 = 53 << 24 | 254 << 16 | 54 << 8 | 15;
  private static final String[] NAMES = {
    "section", "bytes", "mended", "clear", "link", "packed", "image", "spoil", "valid",
    "restart", "raise", "run", "state", "register", "peek", "sent", "byteSent"
  };

  private final int seed;
  private final Random chance;
  private final Calls program = Calls.of(new CartridgeDesk());
  private final Calls reading = new SecondReading();
  private int calls = 0;

  private SecondReadingTest(int seed) {
    this.seed = seed;
    this.chance = new Random(seed);
  }

  public static void main(String[] args) {
    for (int seed = 0; seed < RUNS; seed++) {
      new SecondReadingTest(seed).goThrough();
    }
    check.end();
  }

  private void goThrough() {
    while (calls < CALLS_OF_A_RUN) {
      int what = chance.nextInt(40);
      if (what == 0 || calls == 0) {
        makeImage();
      } else if (what < 3) {
        ask(Calls.RESTART, 0, 0);
      } else if (what < 8) {
        ask(Calls.RAISE, chance.nextInt(4), 0);
      } else if (what < 12) {
        spoilAtPlace();
      } else if (what < 14) {
        askAnything();
      } else if (what < 18) {
        lookAtImage();
      } else {
        play();
      }
    }
  }

  /** Behind its 512th call an object is free to answer anything, so none is asked then. */
  private int ask(int method, int x, int y) {
    if (calls == CALLS_OF_A_RUN) {
      return Calls.NO_SUCH;
    }
    calls++;
    int want = reading.answer(method, x, y);
    String call = NAMES[method] + "(" + x + ", " + y + "), call " + calls + " of run " + seed;
    check.due(call, program.answer(method, x, y), want);
    return want;
  }

  private void makeImage() {
    if (chance.nextInt(8) != 0) {
      ask(Calls.CLEAR, 0, 0);
    }
    int banks = 2 << chance.nextInt(3);
    int sections = chance.nextInt(4) == 0 ? chance.nextInt(12) : 1 + chance.nextInt(4);
    for (int s = 0; s < sections; s++) {
      ask(Calls.SECTION, chance.nextInt(banks + 1) - 1, 0);
      if (chance.nextInt(3) == 0) {
        ask(Calls.BYTES, MASK_BECOMES_15, 4);
      }
      fillSection(sections);
    }
    ask(Calls.LINK, banks, 0);
    for (int s = 0; s < sections; s++) {
      ask(Calls.PACKED, s, 0);
      ask(Calls.PACKED, s, 1);
    }
  }

  private void fillSection(int sections) {
    int words = chance.nextInt(13);
    for (int k = 0; k < words; k++) {
      if (chance.nextInt(8) == 0) {
        ask(Calls.BYTES, instruction() >> 8, 1);
        ask(Calls.MENDED, 1 + chance.nextInt(2), chance.nextInt(sections));
      } else {
        ask(Calls.BYTES, instruction() << 16 | instruction(), 4);
      }
    }
  }

  /** Two bytes: two instructions, or one that has a second byte, which leads somewhere. */
  private int instruction() {
    int second = second();
    switch (chance.nextInt(10)) {
      case 0:
        return chance.nextInt(256) << 8 | chance.nextInt(256);
      case 1:
        return (192 + 8 * chance.nextInt(4) + chance.nextInt(5)) << 8 | second;
      case 2:
        return 240 << 8 | chance.nextInt(256);
      case 3:
        return 53 << 8 | second;
      case 4:
        return (48 + chance.nextInt(8)) << 8 | second;
      case 5:
        return (224 + chance.nextInt(8)) << 8 | second;
      case 6:
        return (3 + chance.nextInt(9)) << 8 | 16 + chance.nextInt(176);
      case 7:
        return 4 << 8 | 3 + chance.nextInt(3);
      default:
        return (16 + chance.nextInt(176)) << 8 | 16 + chance.nextInt(176);
    }
  }

  private int second() {
    int[] telling = {0, 1, 9, 10, 15, 16, 31, 32, 63, 64, 95, 96, 127, 128, 153, 191, 192, 253};
    switch (chance.nextInt(4)) {
      case 0:
        return telling[chance.nextInt(telling.length)];
      case 1:
        return 254 + chance.nextInt(2);
      case 2:
        return 32 + chance.nextInt(96);
      default:
        return chance.nextInt(256);
    }
  }

  /** So that a machine that came where nothing is has something to do. */
  private void spoilAtPlace() {
    int place = Math.max(0, ask(Calls.REGISTER, 9, 0));
    int code = instruction();
    for (int bank = 0; bank < 8; bank++) {
      ask(Calls.SPOIL, bank * 64 + place % 64, code >> 8);
      ask(Calls.SPOIL, bank * 64 + (place + 1) % 64, code & 255);
    }
    look();
  }

  private void play() {
    int[] telling = {-1, 0, 1999, 2000, 2001, Integer.MAX_VALUE, Integer.MIN_VALUE};
    int steps = 1 + chance.nextInt(3);
    if (chance.nextInt(20) == 0) {
      steps = telling[chance.nextInt(telling.length)];
    }
    ask(Calls.RUN, steps, 0);
    look();
    if (ask(Calls.STATE, 0, 0) >= 2) {
      ask(Calls.RESTART, 0, 0);
      ask(Calls.RUN, 1, 0);
    }
  }

  private void look() {
    for (int r = 0; r <= 12; r++) {
      ask(Calls.REGISTER, r, 0);
    }
    for (int k = 0; k < 3; k++) {
      ask(Calls.PEEK, second(), 0);
    }
    ask(Calls.BYTE_SENT, ask(Calls.SENT, 0, 0) - 1, 0);
  }

  private void lookAtImage() {
    ask(Calls.VALID, 0, 0);
    for (int k = 0; k < 6; k++) {
      ask(Calls.IMAGE, chance.nextInt(520) - 1, 0);
    }
    if (chance.nextInt(4) == 0) {
      ask(Calls.SPOIL, chance.nextInt(34), chance.nextInt());
    }
    ask(Calls.VALID, 0, 0);
  }

  private void askAnything() {
    for (int k = 0; k < 6; k++) {
      ask(chance.nextInt(Calls.COUNT), anyArgument(), anyArgument());
    }
  }

  private int anyArgument() {
    int[] bounds = {4, 6, 11, 14, 130, 260, 520};
    int which = chance.nextInt(bounds.length + 1);
    return which == bounds.length ? chance.nextInt() : chance.nextInt(bounds[which]) - 1;
  }
}
