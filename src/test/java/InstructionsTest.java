/** Each instruction that is not arithmetic of A alone: registers, stack, jumps, locks. */
public final class InstructionsTest {
  private static final Check check = new Check("InstructionsTest");

  /** B, C, D, E, H, L, the byte at L, and A behind FILL; then 11 bytes and more may follow. */
  private static final int[] FILL = {
    48, 11, 49, 22, 50, 33, 51, 44, 52, 55, 53, 200, 54, 77, 55, 88
  };
  private static final int[] FILLED = {11, 22, 33, 44, 55, 200, 77, 88};
  private static final int FILL_STEPS = 8;
  private static final int BEHIND = 64 + 16;

  private InstructionsTest() {}

  public static void main(String[] args) {
    locks();
    lengths();
    copies();
    becomesN();
    putAndTaken();
    oneMoreAndLess();
    exchanged();
    bitsOfRegisters();
    stackAndPlaceWrap();
    jumps();
    calls();
    returns();
    relative();
    secondByteIsReadFirst();
    switchesByInstructions();
    check.end();
  }

  private static CartridgeDesk filled(int steps, int... more) {
    return Bench.ran(FILL_STEPS + steps, Bench.joined(FILL, more));
  }

  /** All registers are as FILL left them but one (NONE: not even one). */
  private static void dueRegisters(String call, CartridgeDesk desk, int changed, int value) {
    for (int r = 0; r < 8; r++) {
      int due = r == changed ? value : FILLED[r];
      boolean seenByL = r == 6 && changed == 5;
      if (!seenByL) {
        check.due(call + ": register(" + r + ")", desk.register(r), due);
      }
    }
  }

  private static boolean isLock(int code) {
    boolean jump = code >= 192 && code < 224 && code % 8 > 4;
    return code >= 12 && code < 16 || jump || code >= 232 && code < 240 || code > 240;
  }

  private static void locks() {
    int count = 0;
    for (int code = 0; code < 256; code++) {
      CartridgeDesk desk = filled(1, code, 64, 0);
      boolean lock = isLock(code);
      count += lock ? 1 : 0;
      int due = lock ? 3 : code == 1 || code == 2 ? code : 0;
      check.due("state behind " + code, desk.state(), due);
      if (lock) {
        check.due("PLACE at " + code, desk.register(Bench.PLACE), BEHIND);
        dueRegisters("lock " + code, desk, CartridgeDesk.NONE, 0);
        check.due("STACK at " + code, desk.register(Bench.STACK), 240);
      }
    }
    check.due("bytes that lock", count, 4 + 12 + 8 + 15);
  }

  private static void lengths() {
    for (int code = 0; code < 192; code++) {
      boolean jumps = code == 5 || code == 10;
      boolean rests = code == 1 || code == 2 || isLock(code);
      if (jumps || rests) {
        continue;
      }
      CartridgeDesk desk = filled(1, code, 0, 0);
      int length = code >= 48 && code < 56 ? 2 : 1;
      check.due("PLACE behind " + code, desk.register(Bench.PLACE), BEHIND + length);
    }
    for (int code = 224; code < 232; code++) {
      check.due("PLACE behind " + code, filled(1, code, 1).register(Bench.PLACE), BEHIND + 2);
    }
    check.due("PLACE behind 240", filled(1, 240, 64).register(Bench.PLACE), BEHIND + 2);
    check.due("PLACE behind 0", filled(1, 0).register(Bench.PLACE), BEHIND + 1);
    dueRegisters("0", filled(1, 0), CartridgeDesk.NONE, 0);
  }

  private static void copies() {
    for (int r = 0; r < 8; r++) {
      for (int s = 0; s < 8; s++) {
        CartridgeDesk desk = filled(2, 8, 64 + 8 * r + s);
        dueRegisters("code " + (64 + 8 * r + s), desk, r, FILLED[s]);
        check.due("flags stay", desk.register(Bench.FLAGS), 1);
        check.due("200 is as due", desk.peek(200), r == 6 ? FILLED[s] : 77);
      }
    }
  }

  private static void becomesN() {
    for (int r = 0; r < 8; r++) {
      CartridgeDesk desk = filled(2, 8, 48 + r, 199);
      dueRegisters("code " + (48 + r), desk, r, 199);
      check.due("flags stay", desk.register(Bench.FLAGS), 1);
      check.due("200 is as due", desk.peek(200), r == 6 ? 199 : 77);
    }
  }

  private static void putAndTaken() {
    for (int r = 0; r < 8; r++) {
      CartridgeDesk desk = filled(3, 8, 32 + r, 0);
      dueRegisters("code " + (32 + r), desk, CartridgeDesk.NONE, 0);
      check.due("STACK", desk.register(Bench.STACK), 239);
      check.due("what was put", desk.peek(239), FILLED[r]);
      check.due("flags stay", desk.register(Bench.FLAGS), 1);
      CartridgeDesk taken = filled(4, 8, 39, 55, 88, 40 + r);
      dueRegisters("code " + (40 + r), taken, r, 88);
      check.due("STACK", taken.register(Bench.STACK), 240);
      check.due("what is there stays", taken.peek(239), 88);
      check.due("flags stay", taken.register(Bench.FLAGS), 1);
    }
    CartridgeDesk order = filled(4, 32, 33, 42, 43);
    check.due("the last first", order.register(2), 22);
    check.due("then the first", order.register(3), 11);
  }

  private static void oneMoreAndLess() {
    for (int r = 0; r < 8; r++) {
      CartridgeDesk more = filled(1, 16 + r);
      dueRegisters("code " + (16 + r), more, r, FILLED[r] + 1);
      CartridgeDesk less = filled(1, 24 + r);
      dueRegisters("code " + (24 + r), less, r, FILLED[r] - 1);
      CartridgeDesk over = filled(3, 8, 48 + r, 255, 16 + r);
      check.due("255 and 1", over.register(r), 0);
      check.due("flags", over.register(Bench.FLAGS), Bench.Z + Bench.H + Bench.C);
      CartridgeDesk under = filled(2, 48 + r, 0, 24 + r);
      check.due("0 less 1", under.register(r), 255);
      check.due("flags", under.register(Bench.FLAGS), Bench.N + Bench.H);
    }
  }

  private static void exchanged() {
    for (int r = 0; r < 8; r++) {
      CartridgeDesk desk = filled(2, 8, 56 + r);
      dueRegisters("code " + (56 + r), desk, r, FILLED[r] % 16 * 16 + FILLED[r] / 16);
      check.due("flags", desk.register(Bench.FLAGS), 0);
    }
  }

  private static void bitsOfRegisters() {
    for (int r = 0; r < 8; r++) {
      dueRegisters("turned", filled(1, 240, r), r, FILLED[r] * 2 % 256 + FILLED[r] / 128);
      dueRegisters("tested", filled(1, 240, 8 * 15 + r), CartridgeDesk.NONE, 0);
      dueRegisters("bit 3 is 0", filled(1, 240, 8 * 19 + r), r, FILLED[r] & 247);
      dueRegisters("bit 2 is 1", filled(1, 240, 8 * 26 + r), r, FILLED[r] | 4);
      dueRegisters("nothing", filled(1, 240, 56 + r), CartridgeDesk.NONE, 0);
      int set = FILLED[r] / 128 == 1 ? 0 : Bench.Z;
      int flags = filled(1, 240, 8 * 15 + r).register(Bench.FLAGS);
      check.due("flags of bit 7", flags, set + Bench.H);
    }
  }

  private static void stackAndPlaceWrap() {
    CartridgeDesk put = Bench.ready(2, 1, 41, 216, 253);
    put.run(2 * 16);
    check.due("STACK at 0", put.register(Bench.STACK), 0);
    put.spoil(64, 55);
    put.spoil(65, 6);
    put.spoil(66, 39);
    put.run(2);
    check.due("STACK at 255", put.register(Bench.STACK), 255);
    check.due("the lines were written", put.peek(255), 6);
    CartridgeDesk end = Bench.ran(3, 53, 253, 54, 1, 192, 253);
    check.due("PLACE at 253", end.register(Bench.PLACE), 253);
    CartridgeDesk over = Bench.ran(6, 53, 254, 54, 3, 21, 54, 4, 192, 254);
    check.due("PLACE at 255", over.register(Bench.PLACE), 255);
    over.run(1);
    check.due("PLACE goes on at 0", over.register(Bench.PLACE), 0);
  }

  private static boolean holds(int when, int flags) {
    boolean z = (flags & Bench.Z) != 0;
    boolean c = (flags & Bench.C) != 0;
    return when == 0 || when == 1 && !z || when == 2 && z || when == 3 && !c || when == 4 && c;
  }

  private static CartridgeDesk flagged(int flags, int... more) {
    return Bench.ran(Bench.FLAG_STEPS + 1, Bench.joined(Bench.makeFlags(flags), more));
  }

  private static void jumps() {
    for (int flags = 0; flags < 16; flags++) {
      for (int when = 0; when < 5; when++) {
        CartridgeDesk desk = flagged(flags, 192 + when, 201);
        int due = holds(when, flags) ? 201 : 74;
        check.due("jump " + when + " by " + flags, desk.register(Bench.PLACE), due);
        check.due("STACK", desk.register(Bench.STACK), 240);
        check.due("flags", desk.register(Bench.FLAGS), flags);
      }
    }
  }

  private static void calls() {
    for (int flags = 0; flags < 16; flags++) {
      for (int when = 0; when < 5; when++) {
        CartridgeDesk desk = flagged(flags, 200 + when, 201);
        boolean holds = holds(when, flags);
        check.due("call " + when + " by " + flags, desk.register(Bench.PLACE), holds ? 201 : 74);
        check.due("STACK", desk.register(Bench.STACK), holds ? 239 : 240);
        check.due("what was put", desk.peek(239), holds ? 74 : 0);
        check.due("flags", desk.register(Bench.FLAGS), flags);
      }
    }
  }

  private static void returns() {
    for (int flags = 0; flags < 16; flags++) {
      for (int when = 0; when < 5; when++) {
        int[] put = {51, 210, 35};
        int[] program = Bench.joined(put, Bench.makeFlags(flags), new int[] {208 + when});
        CartridgeDesk desk = Bench.ran(2 + Bench.FLAG_STEPS + 1, program);
        boolean holds = holds(when, flags);
        check.due("return " + when + " by " + flags, desk.register(Bench.PLACE), holds ? 210 : 76);
        check.due("STACK", desk.register(Bench.STACK), holds ? 240 : 239);
        check.due("flags", desk.register(Bench.FLAGS), flags);
      }
    }
    CartridgeDesk ten = Bench.ran(3, 48, 99, 32, 10);
    check.due("10", ten.register(Bench.PLACE), 99);
    check.due("STACK", ten.register(Bench.STACK), 240);
    check.due("not ENABLED", ten.register(Bench.ENABLED), 0);
    CartridgeDesk five = Bench.ran(3, 48, 99, 32, 5);
    check.due("5", five.register(Bench.PLACE), 99);
    check.due("STACK", five.register(Bench.STACK), 240);
    check.due("ENABLED", five.register(Bench.ENABLED), 1);
  }

  private static void relative() {
    int[][] due = {{0, 74}, {1, 75}, {127, 201}, {128, 202}, {255, 73}, {254, 72}, {182, 0}};
    for (int[] row : due) {
      CartridgeDesk desk = flagged(0, 216, row[0]);
      check.due("216, " + row[0], desk.register(Bench.PLACE), row[1]);
    }
    for (int flags = 0; flags < 16; flags++) {
      for (int when = 0; when < 5; when++) {
        CartridgeDesk desk = flagged(flags, 216 + when, 246);
        int place = holds(when, flags) ? 64 : 74;
        check.due("relative " + when + " by " + flags, desk.register(Bench.PLACE), place);
        check.due("STACK", desk.register(Bench.STACK), 240);
      }
    }
  }

  /** A call whose push turns a bank away: n was taken before. */
  private static void secondByteIsReadFirst() {
    CartridgeDesk desk = new CartridgeDesk();
    Bench.addSection(desk, 1, 200, 90);
    desk.link(4);
    desk.run(1);
    desk.spoil(64, 40);
    desk.spoil(65, 216);
    desk.spoil(66, 253);
    desk.run(2 * 80);
    check.due("STACK", desk.register(Bench.STACK), 64);
    desk.spoil(64, 200);
    desk.spoil(65, 90);
    desk.run(1);
    check.due("PLACE", desk.register(Bench.PLACE), 90);
    check.due("STACK", desk.register(Bench.STACK), 63);
    check.due("66 turned LOW to 2", desk.register(Bench.SWITCHES), 8);
    CartridgeDesk copy = Bench.ready(2, 0, 53, 127, 118, 0);
    copy.spoil(127, 1);
    copy.run(2);
    check.due("118 writes what it reads", copy.register(Bench.SWITCHES), 5);
  }

  private static void switchesByInstructions() {
    CartridgeDesk more = Bench.ready(8, 0, 53, 32, 22, 2);
    more.run(2);
    check.due("one more of 53 is 54: LOW 2", more.register(Bench.SWITCHES), 8);
    check.due("the byte stays", more.image(32), 53);
    check.due("flags are of 54", more.register(Bench.FLAGS), 0);
    CartridgeDesk bit = Bench.ready(8, 0, 53, 64, 240, 8 * 10 + 6, 2);
    bit.run(2);
    check.due("a test writes nothing", bit.register(Bench.SWITCHES), 4);
    CartridgeDesk set = Bench.ready(8, 0, 53, 96, 240, 8 * 24 + 6, 2);
    set.run(2);
    check.due("bit 0 of 255: MODE 1", set.register(Bench.SWITCHES), 5);
    CartridgeDesk nothing = Bench.ready(8, 0, 53, 96, 240, 8 * 7 + 6, 2);
    nothing.run(2);
    check.due("7 writes nothing", nothing.register(Bench.SWITCHES), 4);
    CartridgeDesk popped = Bench.ready(8, 0, 53, 0, 48, 10, 32, 46, 2);
    popped.run(4);
    check.due("10 is taken to 0: RAM on", popped.register(Bench.SWITCHES), 20);
  }
}
