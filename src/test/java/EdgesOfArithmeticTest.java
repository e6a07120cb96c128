/** Each sentence on an instruction that calculates, with its flags at the last and first value. */
public final class EdgesOfArithmeticTest {
  private static final Check check = new Check("EdgesOfArithmeticTest");
  private static final int Z = Bench.Z;
  private static final int N = Bench.N;
  private static final int H = Bench.H;
  private static final int C = Bench.C;
  private static final int ALL = Z + N + H + C;

  private EdgesOfArithmeticTest() {}

  public static void main(String[] args) {
    plus();
    plusC();
    less();
    lessC();
    compared();
    and();
    xor();
    or();
    oneMore();
    oneLess();
    allBitsChanged();
    carrySet();
    carryChanged();
    exchanged();
    turnedLeft();
    turnedRight();
    leftThroughC();
    rightThroughC();
    left();
    rightBit7Staying();
    right();
    nothing();
    bitTested();
    bitCleared();
    bitSet();
    restsOf240();
    adjustedLowerHalf();
    adjustedByH();
    adjustedAbove153();
    adjustedByC();
    adjustedIfN();
    adjustedIsAByte();
    check.end();
  }

  /** Rows of flags, A, the other byte; then A and the flags that are due: by B and by n. */
  private static void dueBoth(int kind, int[][] rows) {
    for (int[] row : rows) {
      String call = "kind " + kind + ", A " + row[1] + ", it " + row[2] + ", flags " + row[0];
      CartridgeDesk byRegister = Bench.obeyed(row[0], row[1], row[2], 128 + 8 * kind);
      check.due(call, byRegister.register(Bench.A), row[3]);
      check.due(call + ": flags", byRegister.register(Bench.FLAGS), row[4]);
      check.due(call + ": B stays", byRegister.register(0), row[2]);
      CartridgeDesk byN = Bench.obeyed(row[0], row[1], 0, 224 + kind, row[2]);
      check.due(call + " (n)", byN.register(Bench.A), row[3]);
      check.due(call + " (n): flags", byN.register(Bench.FLAGS), row[4]);
    }
  }

  /** Rows of flags and a byte; then the byte and the flags that are due: in B, at L and in A. */
  private static void dueOne(int code, int n, int[][] rows) {
    for (int[] row : rows) {
      String call = "code " + code + " " + n + ", byte " + row[1] + ", flags " + row[0];
      for (int r : new int[] {0, 6, 7}) {
        int[] put = {48 + r, row[1], code + (code == 240 ? 0 : r), n + (code == 240 ? r : 0)};
        int[] set = Bench.joined(Bench.makeFlags(row[0]), new int[] {53, 200}, put);
        CartridgeDesk desk = Bench.ran(Bench.FLAG_STEPS + 3, set);
        check.due(call + ": register(" + r + ")", desk.register(r), row[2]);
        check.due(call + ": flags", desk.register(Bench.FLAGS), row[3]);
        check.due(call + ": STACK", desk.register(Bench.STACK), 240);
      }
    }
  }

  /** Rows of flags and A; then A and the flags that are due. */
  private static void dueA(int code, int[][] rows) {
    for (int[] row : rows) {
      String call = "code " + code + ", A " + row[1] + ", flags " + row[0];
      CartridgeDesk desk = Bench.obeyed(row[0], row[1], 0, code);
      check.due(call, desk.register(Bench.A), row[2]);
      check.due(call + ": flags", desk.register(Bench.FLAGS), row[3]);
    }
  }

  private static void plus() {
    check.sentence("k 0 A plus it (all flags); H: a carry from the lower four bits; C: of all");
    dueBoth(0, new int[][] {
      {0, 0, 0, 0, Z}, {ALL, 0, 0, 0, Z}, {C, 0, 1, 1, 0}, {ALL, 14, 1, 15, 0},
      {0, 15, 1, 16, H}, {0, 1, 15, 16, H}, {0, 15, 15, 30, H}, {0, 8, 7, 15, 0},
      {0, 16, 240, 0, Z + C}, {0, 254, 1, 255, 0}, {0, 255, 1, 0, Z + H + C},
      {0, 240, 15, 255, 0}, {0, 240, 16, 0, Z + C}, {0, 128, 127, 255, 0},
      {0, 128, 128, 0, Z + C}, {C, 255, 255, 254, H + C}, {ALL, 255, 0, 255, 0}
    });
  }

  private static void plusC() {
    check.sentence("k 1 and C, too (all flags)");
    dueBoth(1, new int[][] {
      {0, 0, 0, 0, Z}, {C, 0, 0, 1, 0}, {C, 14, 0, 15, 0}, {C, 15, 0, 16, H},
      {Z + N + H, 15, 0, 15, 0}, {C, 7, 7, 15, 0}, {C, 7, 8, 16, H}, {C, 254, 0, 255, 0},
      {C, 255, 0, 0, Z + H + C}, {C, 0, 255, 0, Z + H + C}, {C, 128, 127, 0, Z + H + C},
      {0, 128, 127, 255, 0}, {C, 255, 255, 255, H + C}, {0, 255, 255, 254, H + C},
      {ALL, 239, 15, 255, H}, {ALL, 240, 15, 0, Z + H + C}
    });
  }

  private static void less() {
    check.sentence("2 A less it (all flags); H: a borrow into the lower four bits; C: of all");
    dueBoth(2, new int[][] {
      {0, 0, 0, 0, Z + N}, {ALL, 5, 5, 0, Z + N}, {C, 5, 4, 1, N}, {0, 5, 6, 255, N + H + C},
      {0, 15, 15, 0, Z + N}, {0, 16, 1, 15, N + H}, {0, 17, 1, 16, N}, {0, 31, 15, 16, N},
      {0, 30, 15, 15, N + H}, {0, 0, 1, 255, N + H + C}, {0, 0, 16, 240, N + C},
      {0, 0, 255, 1, N + H + C}, {0, 255, 255, 0, Z + N}, {0, 254, 255, 255, N + H + C},
      {0, 255, 0, 255, N}, {0, 128, 127, 1, N + H}, {0, 127, 128, 255, N + C}
    });
  }

  private static void lessC() {
    check.sentence("3 less C, too (all flags)");
    dueBoth(3, new int[][] {
      {0, 0, 0, 0, Z + N}, {C, 0, 0, 255, N + H + C}, {C, 1, 0, 0, Z + N}, {C, 5, 4, 0, Z + N},
      {C, 5, 5, 255, N + H + C}, {Z + N + H, 5, 5, 0, Z + N}, {C, 16, 0, 15, N + H},
      {C, 17, 0, 16, N}, {C, 31, 15, 15, N + H}, {C, 32, 15, 16, N + H},
      {C, 0, 255, 0, Z + N + H + C}, {0, 0, 255, 1, N + H + C}, {C, 255, 255, 255, N + H + C},
      {C, 255, 254, 0, Z + N}, {ALL, 15, 15, 255, N + H + C}, {ALL, 240, 239, 0, Z + N + H}
    });
  }

  private static void compared() {
    check.sentence("7 flags as for 2, A stays");
    dueBoth(7, new int[][] {
      {0, 0, 0, 0, Z + N}, {ALL, 5, 5, 5, Z + N}, {C, 5, 4, 5, N}, {0, 5, 6, 5, N + H + C},
      {0, 16, 1, 16, N + H}, {0, 17, 1, 17, N}, {0, 0, 1, 0, N + H + C}, {0, 0, 16, 0, N + C},
      {0, 255, 255, 255, Z + N}, {0, 254, 255, 254, N + H + C}, {ALL, 255, 0, 255, N}
    });
  }

  private static void and() {
    check.sentence("4 and (Z, H set; others not set)");
    dueBoth(4, new int[][] {
      {0, 0, 0, 0, Z + H}, {ALL, 255, 255, 255, H}, {ALL, 85, 170, 0, Z + H},
      {0, 1, 1, 1, H}, {N + C, 128, 255, 128, H}, {0, 128, 127, 0, Z + H}
    });
  }

  private static void xor() {
    check.sentence("5 xor (Z; others not set)");
    dueBoth(5, new int[][] {
      {0, 0, 0, 0, Z}, {ALL, 255, 255, 0, Z}, {ALL, 85, 170, 255, 0}, {0, 1, 0, 1, 0},
      {N + H + C, 128, 128, 0, Z}, {N + H + C, 129, 128, 1, 0}
    });
  }

  private static void or() {
    check.sentence("6 or (Z; others not set)");
    dueBoth(6, new int[][] {
      {0, 0, 0, 0, Z}, {ALL, 0, 0, 0, Z}, {ALL, 0, 1, 1, 0}, {ALL, 128, 0, 128, 0},
      {N + H + C, 85, 170, 255, 0}, {0, 255, 255, 255, 0}
    });
  }

  private static void oneMore() {
    check.sentence("16 + r: 1 more (Z, N, H)");
    dueOne(16, 0, new int[][] {
      {0, 0, 1, 0}, {ALL, 0, 1, C}, {0, 14, 15, 0}, {0, 15, 16, H}, {C, 15, 16, H + C},
      {N, 16, 17, 0}, {0, 127, 128, H}, {0, 239, 240, H}, {ALL, 254, 255, C}, {0, 254, 255, 0},
      {0, 255, 0, Z + H}, {N + C, 255, 0, Z + H + C}
    });
  }

  private static void oneLess() {
    check.sentence("24 + r: 1 less (Z, N, H)");
    dueOne(24, 0, new int[][] {
      {0, 2, 1, N}, {0, 1, 0, Z + N}, {C, 1, 0, Z + N + C}, {0, 0, 255, N + H},
      {C, 0, 255, N + H + C}, {Z, 17, 16, N}, {0, 16, 15, N + H}, {0, 15, 14, N},
      {ALL, 255, 254, N + C}, {0, 240, 239, N + H}, {0, 128, 127, N + H}
    });
  }

  private static void allBitsChanged() {
    check.sentence("7: A with all bits changed, N and H set");
    dueA(7, new int[][] {
      {0, 0, 255, N + H}, {0, 255, 0, N + H}, {ALL, 0, 255, ALL}, {Z, 255, 0, Z + N + H},
      {C, 128, 127, N + H + C}, {N, 85, 170, N + H}
    });
  }

  private static void carrySet() {
    check.sentence("8: C set (N, H not set)");
    for (int flags = 0; flags < 16; flags++) {
      dueA(8, new int[][] {{flags, 0, 0, (flags & Z) + C}, {flags, 255, 255, (flags & Z) + C}});
    }
  }

  private static void carryChanged() {
    check.sentence("9: C changed (N, H not set)");
    for (int flags = 0; flags < 16; flags++) {
      int due = (flags & Z) + ((flags & C) == 0 ? C : 0);
      dueA(9, new int[][] {{flags, 0, 0, due}, {flags, 255, 255, due}});
    }
  }

  private static void exchanged() {
    check.sentence("56 + r: its halves are exchanged (Z; others not set)");
    dueOne(56, 0, new int[][] {
      {0, 0, 0, Z}, {ALL, 0, 0, Z}, {ALL, 1, 16, 0}, {0, 15, 240, 0}, {0, 16, 1, 0},
      {N + H + C, 240, 15, 0}, {0, 255, 255, 0}, {Z, 18, 33, 0}
    });
  }

  private static void turnedLeft() {
    check.sentence("240 n: 0 turned left (bit 7 to C and bit 0)");
    dueOne(240, 0, new int[][] {
      {0, 0, 0, Z}, {ALL, 0, 0, Z}, {0, 127, 254, 0}, {ALL, 127, 254, 0}, {0, 128, 1, C},
      {0, 129, 3, C}, {ALL, 1, 2, 0}, {0, 255, 255, C}
    });
  }

  private static void turnedRight() {
    check.sentence("240 n: 1 right (bit 0 to C and bit 7)");
    dueOne(240, 8, new int[][] {
      {0, 0, 0, Z}, {ALL, 0, 0, Z}, {0, 1, 128, C}, {ALL, 2, 1, 0}, {0, 254, 127, 0},
      {0, 129, 192, C}, {ALL, 128, 64, 0}, {0, 255, 255, C}
    });
  }

  private static void leftThroughC() {
    check.sentence("240 n: 2 left through C");
    dueOne(240, 16, new int[][] {
      {0, 0, 0, Z}, {C, 0, 1, 0}, {ALL - C, 0, 0, Z}, {0, 127, 254, 0}, {C, 127, 255, 0},
      {0, 128, 0, Z + C}, {C, 128, 1, C}, {ALL, 255, 255, C}, {0, 255, 254, C}
    });
  }

  private static void rightThroughC() {
    check.sentence("240 n: 3 right through C");
    dueOne(240, 24, new int[][] {
      {0, 0, 0, Z}, {C, 0, 128, 0}, {ALL - C, 0, 0, Z}, {0, 1, 0, Z + C}, {C, 1, 128, C},
      {0, 2, 1, 0}, {C, 254, 255, 0}, {ALL, 255, 255, C}, {0, 255, 127, C}
    });
  }

  private static void left() {
    check.sentence("240 n: 4 left (0 comes in)");
    dueOne(240, 32, new int[][] {
      {0, 0, 0, Z}, {ALL, 0, 0, Z}, {ALL, 127, 254, 0}, {0, 128, 0, Z + C}, {C, 129, 2, C},
      {ALL, 255, 254, C}, {0, 64, 128, 0}
    });
  }

  private static void rightBit7Staying() {
    check.sentence("240 n: 5 right, bit 7 staying");
    dueOne(240, 40, new int[][] {
      {0, 0, 0, Z}, {ALL, 0, 0, Z}, {0, 1, 0, Z + C}, {ALL, 2, 1, 0}, {0, 127, 63, C},
      {0, 128, 192, 0}, {0, 129, 192, C}, {ALL, 254, 255, 0}, {0, 255, 255, C}
    });
  }

  private static void right() {
    check.sentence("240 n: 6 right (0 comes in)");
    dueOne(240, 48, new int[][] {
      {0, 0, 0, Z}, {ALL, 0, 0, Z}, {0, 1, 0, Z + C}, {ALL, 2, 1, 0}, {C, 128, 64, 0},
      {0, 129, 64, C}, {ALL, 254, 127, 0}, {C, 255, 127, C}
    });
  }

  private static void nothing() {
    check.sentence("240 n: 7: nothing");
    dueOne(240, 56, new int[][] {
      {0, 0, 0, 0}, {ALL, 0, 0, ALL}, {0, 1, 1, 0}, {ALL, 128, 128, ALL}, {C, 255, 255, C},
      {N + H, 255, 255, N + H}
    });
  }

  private static void bitTested() {
    check.sentence("240 n: 8 .. 15: Z is whether bit n / 8 - 8 is 0 (N not set, H set)");
    for (int bit = 0; bit < 8; bit++) {
      int one = 1 << bit;
      dueOne(240, 8 * (8 + bit), new int[][] {
        {0, one, one, H}, {ALL, one, one, H + C}, {0, 255 - one, 255 - one, Z + H},
        {ALL, 255 - one, 255 - one, Z + H + C}, {0, 0, 0, Z + H}, {N, 255, 255, H}
      });
    }
  }

  private static void bitCleared() {
    check.sentence("240 n: 16 .. 23: that bit (less 16) is 0");
    for (int bit = 0; bit < 8; bit++) {
      int one = 1 << bit;
      dueOne(240, 8 * (16 + bit), new int[][] {
        {0, 255, 255 - one, 0}, {ALL, one, 0, ALL}, {0, 0, 0, 0}, {C, 255 - one, 255 - one, C}
      });
    }
  }

  private static void bitSet() {
    check.sentence("240 n: 24 .. 31: it (less 24) is 1");
    for (int bit = 0; bit < 8; bit++) {
      int one = 1 << bit;
      dueOne(240, 8 * (24 + bit), new int[][] {
        {0, 0, one, 0}, {ALL, 255 - one, 255, ALL}, {0, 255, 255, 0}, {Z, one, one, Z}
      });
    }
  }

  private static void restsOf240() {
    check.sentence("240 n: by the rest n / 8 (the last of a kind and the first of the next)");
    // By turns n, which is of B or A, and what 165 becomes by it.
    int[][] rows = {
      {6 * 8, 82}, {6 * 8 + 7, 82}, {7 * 8, 165}, {7 * 8 + 7, 165}, {8 * 8, 165},
      {15 * 8 + 7, 165}, {16 * 8, 164}, {23 * 8 + 7, 37}, {24 * 8, 165}, {25 * 8, 167},
      {30 * 8 + 7, 229}, {255, 165}, {0, 75}, {7, 75}
    };
    for (int[] row : rows) {
      CartridgeDesk desk = Bench.obeyed(0, 165, 165, 240, row[0]);
      int changed = row[0] % 8;
      check.due("240 " + row[0], desk.register(changed), row[1]);
      check.due("240 " + row[0] + ": the other", desk.register(7 - changed), 165);
      check.due("240 " + row[0] + ": state", desk.state(), 0);
    }
  }

  private static void adjustedLowerHalf() {
    check.sentence("ADJUSTED: not N and the lower half of A above 9: d is 6");
    dueA(6, new int[][] {
      {0, 0, 0, Z}, {0, 9, 9, 0}, {0, 10, 16, 0}, {0, 15, 21, 0}, {0, 16, 16, 0},
      {0, 25, 25, 0}, {0, 26, 32, 0}, {Z, 9, 9, 0}, {0, 143, 149, 0}
    });
  }

  private static void adjustedByH() {
    check.sentence("ADJUSTED: if H: d is 6; H not set");
    dueA(6, new int[][] {
      {H, 0, 6, 0}, {H, 9, 15, 0}, {H, 10, 16, 0}, {H, 147, 153, 0}, {H, 153, 159, 0},
      {Z + H, 16, 22, 0}
    });
  }

  private static void adjustedAbove153() {
    check.sentence("ADJUSTED: not N and A above 153: d is 96 more, and C is set");
    dueA(6, new int[][] {
      {0, 144, 144, 0}, {0, 153, 153, 0}, {0, 154, 0, Z + C}, {0, 155, 1, C}, {0, 159, 5, C},
      {0, 160, 0, Z + C}, {0, 161, 1, C}, {0, 169, 9, C}, {0, 170, 16, C}, {H, 154, 0, Z + C}
    });
  }

  private static void adjustedByC() {
    check.sentence("ADJUSTED: if C: d is 96 more, and C is set");
    dueA(6, new int[][] {
      {C, 0, 96, C}, {C, 9, 105, C}, {C, 10, 112, C}, {C, 153, 249, C}, {C, 160, 0, Z + C},
      {H + C, 0, 102, C}, {H + C, 51, 153, C}, {Z + C, 1, 97, C}
    });
  }

  private static void adjustedIfN() {
    check.sentence("ADJUSTED: A is d less, if N");
    dueA(6, new int[][] {
      {N, 0, 0, Z + N}, {N, 9, 9, N}, {N, 10, 10, N}, {N, 15, 15, N}, {N, 153, 153, N},
      {N, 154, 154, N}, {N, 255, 255, N}, {N + H, 7, 1, N}, {N + H, 6, 0, Z + N},
      {N + C, 97, 1, N + C}, {N + C, 96, 0, Z + N + C}, {N + H + C, 103, 1, N + C},
      {N + H + C, 102, 0, Z + N + C}, {ALL, 255, 153, N + C}
    });
  }

  private static void adjustedIsAByte() {
    check.sentence("ADJUSTED: what is said of arithmetic is of bytes");
    dueA(6, new int[][] {
      {N + H, 5, 255, N}, {N + H, 0, 250, N}, {N + C, 95, 255, N + C}, {N + C, 0, 160, N + C},
      {N + H + C, 101, 255, N + C}, {N + H + C, 0, 154, N + C}, {0, 249, 89, C}, {0, 250, 96, C},
      {0, 255, 101, C}, {H + C, 255, 101, C}, {H, 255, 101, C}
    });
  }
}
