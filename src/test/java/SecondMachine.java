import java.util.ArrayList;
import java.util.HashSet;
import java.util.List;
import java.util.Set;

/** The machine of the second reading; one that is at its beginning is a new one. */
final class SecondMachine {
  private static final int L = 5;
  private static final int A = 7;

  final boolean[] lines = new boolean[4];
  final List<Integer> sent = new ArrayList<>();
  int state = 0;

  private final int[] image;
  private final int[] registers = new int[8];
  private final int[][] ram = new int[2][64];
  private final int[] bytes = new int[62];
  /** Numbers of instructions behind which interrupts are ENABLED, because of a 4 before them. */
  private final Set<Integer> enabling = new HashSet<>();
  private int instructions = 0;
  private int stack = 240;
  private int place = 0;
  private int z = 0;
  private int n = 0;
  private int h = 0;
  private int c = 0;
  private int mask = 0;
  private int enabled = 0;
  private int ramOn = 0;
  private int low = 1;
  private int high = 0;
  private int mode = 0;

  SecondMachine(int[] image) {
    this.image = image;
  }

  int run(int most) {
    for (int done = 0; done < most; done++) {
      if (state == 2 || state == 3) {
        return done;
      }
      step();
    }
    return most;
  }

  int register(int r) {
    int flags = Integer.parseInt("" + z + n + h + c, 2);
    int switches = ramOn * 16 + low * 4 + high * 2 + mode;
    return r < 8 ? get(r) : new int[] {stack, place, flags, switches, enabled}[r - 8];
  }

  private void step() {
    int line = 0;
    while (line < 4 && !(lines[line] && (mask >> line) % 2 == 1)) {
      line++;
    }
    if (state == 1) {
      if (line < 4) {
        state = 0;
        place = (place + 1) % 256;
      }
    } else if (enabled == 1 && line < 4) {
      lines[line] = false;
      enabled = 0;
      put(place);
      place = 16 + 4 * line;
    } else {
      instructions++;
      obey();
      if (enabling.contains(instructions)) {
        enabled = 1;
      }
    }
  }

  int read(int address) {
    int offset = address % 64;
    if (address >= 254) {
      return address == 254 ? mask : linesAsBits();
    }
    switch (address / 64) {
      case 0:
        return image[(mode * high * 4 * 64) % image.length + offset];
      case 1:
        return image[((high * 4 + low) * 64) % image.length + offset];
      case 2:
        return ramOn == 1 ? ram[mode * high][offset] : 255;
      default:
        return bytes[offset];
    }
  }

  private int linesAsBits() {
    int bits = 0;
    for (int k = 3; k >= 0; k--) {
      bits = bits * 2 + (lines[k] ? 1 : 0);
    }
    return bits;
  }

  private void write(int address, int value) {
    if (address <= 31) {
      ramOn = value % 16 == 10 ? 1 : 0;
    } else if (address <= 63) {
      low = Math.max(1, value % 4);
    } else if (address <= 95) {
      high = value % 2;
    } else if (address <= 127) {
      mode = value % 2;
    } else if (address <= 191) {
      if (ramOn == 1) {
        ram[mode * high][address - 128] = value;
      }
    } else if (address <= 253) {
      bytes[address - 192] = value;
    } else if (address == 254) {
      mask = value % 16;
    } else {
      for (int k = 0; k < 4; k++) {
        lines[k] = (value >> k) % 2 == 1;
      }
    }
  }

  private int get(int r) {
    return r == 6 ? read(registers[L]) : registers[r];
  }

  private void set(int r, int value) {
    if (r == 6) {
      write(registers[L], value);
    } else {
      registers[r] = value;
    }
  }

  private void put(int value) {
    stack = (stack + 255) % 256;
    write(stack, value);
  }

  private int taken() {
    int value = read(stack);
    stack = (stack + 1) % 256;
    return value;
  }

  private int second() {
    int value = read((place + 1) % 256);
    place = (place + 2) % 256;
    return value;
  }

  private void flags(boolean zero, int newN, int newH, int newC) {
    z = zero ? 1 : 0;
    n = newN;
    h = newH;
    c = newC;
  }

  /** PLACE is at the instruction until it is known whether it has a second byte. */
  private void obey() {
    int code = read(place);
    if (code == 1 || code == 2) {
      state = code;
    } else if (code > 240 || (code >= 12 && code <= 15) || noCondition(code)) {
      state = 3;
    } else if (code == 240) {
      onBits(second());
    } else if (code >= 224 && code <= 231) {
      calculate(code - 224, second());
    } else if (code >= 192 && code <= 223) {
      jump(code);
    } else if (code >= 48 && code <= 55) {
      int value = second();
      set(code - 48, value);
    } else {
      place = (place + 1) % 256;
      ofOneByte(code);
    }
  }

  /** 232 to 239 are no instructions, and neither are jumps with a c of 5, 6 or 7. */
  private static boolean noCondition(int code) {
    return (code >= 232 && code <= 239) || (code >= 192 && code <= 223 && code % 8 >= 5);
  }

  private void ofOneByte(int code) {
    int r = code % 8;
    if (code < 16) {
      alone(code);
    } else if (code < 24) {
      int result = (get(r) + 1) % 256;
      flags(result == 0, 0, result % 16 == 0 ? 1 : 0, c);
      set(r, result);
    } else if (code < 32) {
      int result = (get(r) + 255) % 256;
      flags(result == 0, 1, result % 16 == 15 ? 1 : 0, c);
      set(r, result);
    } else if (code < 40) {
      put(get(r));
    } else if (code < 48) {
      set(r, taken());
    } else if (code < 64) {
      int value = get(r);
      flags(value == 0, 0, 0, 0);
      set(r, value % 16 * 16 + value / 16);
    } else if (code < 128) {
      set(code / 8 - 8, get(r));
    } else {
      calculate(code / 8 - 16, get(r));
    }
  }

  private void alone(int code) {
    if (code == 3) {
      enabled = 0;
    } else if (code == 4) {
      enabling.add(instructions + 1);
    } else if (code == 5 || code == 10) {
      place = taken();
      enabled = code == 5 ? 1 : enabled;
    } else if (code == 6) {
      adjust();
    } else if (code == 7) {
      registers[A] = 255 - registers[A];
      n = 1;
      h = 1;
    } else if (code == 8 || code == 9) {
      c = code == 8 ? 1 : 1 - c;
      n = 0;
      h = 0;
    } else if (code == 11) {
      sent.add(registers[A]);
    }
  }

  private void adjust() {
    int d = 0;
    if (h == 1 || (n == 0 && registers[A] % 16 > 9)) {
      d = 6;
    }
    if (c == 1 || (n == 0 && registers[A] > 153)) {
      d += 96;
      c = 1;
    }
    registers[A] = Math.floorMod(registers[A] + (n == 1 ? -d : d), 256);
    z = registers[A] == 0 ? 1 : 0;
    h = 0;
  }

  private void calculate(int k, int it) {
    int a = registers[A];
    int sign = k < 2 ? 1 : -1;
    int all = a + sign * (it + (k == 1 || k == 3 ? c : 0));
    switch (k) {
      case 4:
        registers[A] = a & it;
        flags((a & it) == 0, 0, 1, 0);
        break;
      case 5:
        registers[A] = a ^ it;
        flags(a == it, 0, 0, 0);
        break;
      case 6:
        registers[A] = a | it;
        flags(a == 0 && it == 0, 0, 0, 0);
        break;
      default:
        // Bit 4 of the result is not that of a ^ it where there is a carry or a borrow for it.
        int half = ((a ^ it ^ all) >> 4) & 1;
        flags(Math.floorMod(all, 256) == 0, k < 2 ? 0 : 1, half, all == (all & 255) ? 0 : 1);
        registers[A] = k == 7 ? a : Math.floorMod(all, 256);
        break;
    }
  }

  private void jump(int code) {
    boolean[] holds = {true, z == 0, z == 1, c == 0, c == 1};
    boolean due = holds[code % 8];
    if (code >= 208 && code <= 215) {
      place = (place + 1) % 256;
      place = due ? taken() : place;
      return;
    }
    int to = second();
    if (code >= 216) {
      to = Math.floorMod(place + (byte) to, 256);
    }
    if (due && code >= 200 && code <= 207) {
      put(place);
    }
    place = due ? to : place;
  }

  private void onBits(int second) {
    int s = second % 8;
    int rest = second / 8;
    int bit = 1 << rest % 8;
    if (rest == 7) {
      return;
    }
    int value = get(s);
    boolean isSet = value / bit % 2 == 1;
    if (rest < 7) {
      turn(s, rest, value);
    } else if (rest <= 15) {
      flags(!isSet, 0, 1, c);
    } else if (rest <= 23) {
      set(s, isSet ? value - bit : value);
    } else {
      set(s, isSet ? value : value + bit);
    }
  }

  private void turn(int s, int rest, int value) {
    int top = value / 128;
    int bottom = value % 2;
    int left = value * 2 % 256;
    int right = value / 2;
    int[] results = {
      left + top, right + 128 * bottom, left + c, right + 128 * c, left, right + 128 * top, right
    };
    int result = results[rest];
    flags(result == 0, 0, 0, rest == 0 || rest == 2 || rest == 4 ? top : bottom);
    set(s, result);
  }
}
