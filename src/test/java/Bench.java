/** Makes desks with a program in section 0, and looks at them. */
final class Bench {
  static final int A = 7;
  static final int STACK = 8;
  static final int PLACE = 9;
  static final int FLAGS = 10;
  static final int SWITCHES = 11;
  static final int ENABLED = 12;

  static final int Z = 8;
  static final int N = 4;
  static final int H = 2;
  static final int C = 1;

  private Bench() {}

  static void add(CartridgeDesk desk, int... bytes) {
    for (int b : bytes) {
      desk.bytes(b, 1);
    }
  }

  static int addSection(CartridgeDesk desk, int bank, int... bytes) {
    int s = desk.section(bank);
    add(desk, bytes);
    return s;
  }

  /** A section of so many bytes, all alike; four come with a call, to keep below 512 calls. */
  static int addFilled(CartridgeDesk desk, int bank, int length, int value) {
    int s = desk.section(bank);
    int left = length;
    while (left > 0) {
      int n = Math.min(left, 4);
      desk.bytes(value * 0x01010101, n);
      left -= n;
    }
    return s;
  }

  /** Two banks, the program at 64, and the machine already there. */
  static CartridgeDesk at64(int... program) {
    return ready(2, 1, program);
  }

  /** The program in the bank (0: it begins at 32, else at 64), and the machine already there. */
  static CartridgeDesk ready(int banks, int bank, int... program) {
    CartridgeDesk desk = new CartridgeDesk();
    addSection(desk, bank, program);
    desk.link(banks);
    desk.run(1);
    return desk;
  }

  static CartridgeDesk ran(int steps, int... program) {
    CartridgeDesk desk = at64(program);
    desk.run(steps);
    return desk;
  }

  /** The code of makeFlags leaves the flags so; it uses A and B. */
  static final int FLAG_BYTES = 8;
  static final int FLAG_STEPS = 6;

  static int[] makeFlags(int flags) {
    int[] code = {55, (flags & Z) != 0 ? 0 : 1, 183, 8, (flags & C) != 0 ? 0 : 9, 48, 0, 0};
    if ((flags & N) != 0 && (flags & H) != 0) {
      code[7] = 7;
    } else if ((flags & N) != 0) {
      code[6] = (flags & Z) != 0 ? 1 : 2;
      code[7] = 24;
    } else if ((flags & H) != 0) {
      code[6] = (flags & Z) != 0 ? 255 : 15;
      code[7] = 16;
    }
    return code;
  }

  /** Flags, then A, B and L, then the code, of which one step is done. */
  static CartridgeDesk obeyed(int flags, int a, int b, int... code) {
    int[] set = {55, a, 48, b, 53, 200};
    return ran(FLAG_STEPS + 4, joined(makeFlags(flags), set, code));
  }

  /** Where the code of obeyed begins. */
  static final int OBEYED_AT = 64 + FLAG_BYTES + 6;

  static int[] joined(int[]... parts) {
    int n = 0;
    for (int[] part : parts) {
      n += part.length;
    }
    int[] all = new int[n];
    int at = 0;
    for (int[] part : parts) {
      System.arraycopy(part, 0, all, at, part.length);
      at += part.length;
    }
    return all;
  }
}
