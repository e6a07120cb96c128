/** Every sum and difference, by a model that carries bit by bit; the adjusting, shifts and bits. */
public final class ArithmeticTest {
  private static final Check check = new Check("ArithmeticTest");

  private static final int CODE = 64;
  private static final int CALLS_LEFT_OUT = 40;

  private static CartridgeDesk desk;
  private static int calls = 512;

  private static int result;
  private static int flags;

  private ArithmeticTest() {}

  public static void main(String[] args) {
    for (int kind = 0; kind < 8; kind++) {
      for (int carry = 0; carry < 2; carry++) {
        everyPair(kind, carry);
      }
    }
    operandsByRegister();
    for (int before = 0; before < 16; before++) {
      oneMoreAndLess(before);
      exchanged(before);
      adjusted(before);
      changedBits(before);
      shifts(before);
      bits(before);
    }
    decimal();
    check.end();
  }

  /** The flags are made, A becomes a, and then the two bytes are obeyed. */
  private static void obey(int before, int a, int code, int n) {
    if (calls > 512 - CALLS_LEFT_OUT) {
      desk = Bench.at64(new int[20]);
      calls = 25;
    }
    int[] program = Bench.makeFlags(before);
    for (int k = 0; k < program.length; k++) {
      desk.spoil(CODE + k, program[k]);
    }
    int at = CODE + program.length;
    desk.spoil(at, 55);
    desk.spoil(at + 1, a);
    desk.spoil(at + 2, code);
    desk.spoil(at + 3, n);
    desk.restart();
    desk.run(1 + Bench.FLAG_STEPS + 2);
    calls += program.length + 10;
  }

  private static void due(String call, int a, int wantA, int wantFlags) {
    if (desk.register(Bench.A) != wantA || desk.register(Bench.FLAGS) != wantFlags) {
      check.report(call + " with " + a + " left A " + desk.register(Bench.A) + " and flags "
          + desk.register(Bench.FLAGS) + ", due are " + wantA + " and " + wantFlags);
    }
  }

  /** Adds or subtracts bit by bit: what is carried from (borrowed into) bits 3 and 7 is H and C. */
  private static void model(int a, int b, int carry, boolean minus) {
    int sum = 0;
    int moved = carry;
    int half = 0;
    for (int k = 0; k < 8; k++) {
      int x = a >> k & 1;
      int y = b >> k & 1;
      sum |= (x ^ y ^ moved) << k;
      int ones = (minus ? 1 - x : x) + y + moved;
      moved = ones >= 2 ? 1 : 0;
      if (k == 3) {
        half = moved;
      }
    }
    result = sum;
    flags = (sum == 0 ? 8 : 0) + (minus ? 4 : 0) + 2 * half + moved;
  }

  private static void modelOf(int kind, int a, int b, int carry) {
    boolean minus = kind == 2 || kind == 3 || kind == 7;
    if (kind < 4 || kind == 7) {
      model(a, b, kind == 1 || kind == 3 ? carry : 0, minus);
      result = kind == 7 ? a : result;
    } else {
      result = kind == 4 ? a & b : kind == 5 ? a ^ b : a | b;
      flags = (result == 0 ? 8 : 0) + (kind == 4 ? 2 : 0);
    }
  }

  private static void everyPair(int kind, int carry) {
    for (int a = 0; a < 256; a++) {
      for (int b = 0; b < 256; b++) {
        obey(carry == 0 ? 0 : 15, a, 224 + kind, b);
        modelOf(kind, a, b, carry);
        due("kind " + kind + " of " + b + " and C " + carry, a, result, flags);
      }
    }
  }

  private static void operandsByRegister() {
    int[] values = {201, 17, 130, 64, 99, 210, 77, 55};
    for (int kind = 0; kind < 8; kind++) {
      for (int s = 0; s < 8; s++) {
        CartridgeDesk x = Bench.ran(10, 48, 201, 49, 17, 50, 130, 51, 64, 52, 99, 53, 210, 54, 77,
            55, 55, 8, 128 + 8 * kind + s);
        modelOf(kind, 55, values[s], 1);
        String call = "code " + (128 + 8 * kind + s);
        check.due(call, x.register(Bench.A), result);
        check.due(call + " flags", x.register(Bench.FLAGS), flags);
        check.due(call + " PLACE", x.register(Bench.PLACE), 64 + 18);
        check.due(call + " byte at L", x.register(6), 77);
      }
    }
  }

  private static void oneMoreAndLess(int before) {
    for (int a = 0; a < 256; a++) {
      obey(before, a, 23, 0);
      model(a, 1, 0, false);
      due("one more, flags " + before, a, result, (flags & 14) | (before & 1));
      obey(before, a, 31, 0);
      model(a, 1, 0, true);
      due("one less, flags " + before, a, result, (flags & 14) | (before & 1));
    }
  }

  private static void exchanged(int before) {
    for (int a = 0; a < 256; a++) {
      obey(before, a, 63, 0);
      due("exchanged", a, a % 16 * 16 + a / 16, a == 0 ? 8 : 0);
    }
  }

  private static void changedBits(int before) {
    for (int a = 0; a < 256; a++) {
      obey(before, a, 7, 0);
      due("7", a, 255 - a, before | 6);
      obey(before, a, 8, 0);
      due("8", a, a, (before & 8) | 1);
      obey(before, a, 9, 0);
      due("9", a, a, (before & 8) | (1 - (before & 1)));
    }
  }

  private static void adjusted(int before) {
    boolean n = (before & Bench.N) != 0;
    for (int a = 0; a < 256; a++) {
      int d = 0;
      int carry = before & 1;
      if ((before & Bench.H) != 0 || !n && a % 16 > 9) {
        d = 6;
      }
      if (carry == 1 || !n && a > 153) {
        d += 96;
        carry = 1;
      }
      int due = (n ? a - d + 256 : a + d) % 256;
      obey(before, a, 6, 0);
      due("6, flags " + before, a, due, (due == 0 ? 8 : 0) + (before & 4) + carry);
    }
  }

  /** What adjusting is for: sums and differences of decimal digits. */
  private static void decimal() {
    for (int x = 0; x < 100; x += 3) {
      for (int y = 0; y < 100; y += 7) {
        CartridgeDesk sum = Bench.ran(3, 55, digits(x), 224, digits(y), 6);
        check.due(x + " + " + y, sum.register(Bench.A), digits((x + y) % 100));
        check.due("its C", sum.register(Bench.FLAGS) & 1, (x + y) / 100);
        CartridgeDesk less = Bench.ran(3, 55, digits(x), 226, digits(y), 6);
        check.due(x + " - " + y, less.register(Bench.A), digits((x - y + 100) % 100));
        check.due("its C", less.register(Bench.FLAGS) & 1, x < y ? 1 : 0);
      }
    }
  }

  private static int digits(int x) {
    return x / 10 * 16 + x % 10;
  }

  private static void shifts(int before) {
    int c = before & 1;
    for (int a = 0; a < 256; a++) {
      int top = a / 128;
      int last = a % 2;
      shift(before, a, 0, a * 2 % 256 + top, top);
      shift(before, a, 1, a / 2 + 128 * last, last);
      shift(before, a, 2, a * 2 % 256 + c, top);
      shift(before, a, 3, a / 2 + 128 * c, last);
      shift(before, a, 4, a * 2 % 256, top);
      shift(before, a, 5, a / 2 + 128 * top, last);
      shift(before, a, 6, a / 2, last);
      obey(before, a, 240, 7 * 8 + 7);
      due("240, 7: nothing", a, a, before);
    }
  }

  private static void shift(int before, int a, int kind, int due, int out) {
    obey(before, a, 240, 8 * kind + 7);
    due("240, " + kind + ", flags " + before, a, due, (due == 0 ? 8 : 0) + out);
  }

  private static void bits(int before) {
    for (int a = 0; a < 256; a += 5) {
      for (int k = 0; k < 8; k++) {
        int power = 1 << k;
        boolean on = a / power % 2 == 1;
        obey(before, a, 240, 8 * (8 + k) + 7);
        due("bit " + k, a, a, (on ? 0 : 8) + 2 + (before & 1));
        obey(before, a, 240, 8 * (16 + k) + 7);
        due("bit " + k + " is 0", a, on ? a - power : a, before);
        obey(before, a, 240, 8 * (24 + k) + 7);
        due("bit " + k + " is 1", a, on ? a : a + power, before);
      }
    }
  }
}
