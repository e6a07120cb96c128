/** Each sentence on an instruction that moves, jumps or LOCKS, at the edges of what it uses. */
public final class EdgesOfInstructionsTest {
  private static final Check check = new Check("EdgesOfInstructionsTest");
  private static final int ALL = 15;
  private static final int PLACE = Bench.PLACE;
  private static final int STACK = Bench.STACK;

  private EdgesOfInstructionsTest() {}

  public static void main(String[] args) {
    byteAtL();
    placeIsAByte();
    placeBehindN();
    placeStays();
    becomesN();
    rBecomesS();
    putOnTheStack();
    takenFromTheStack();
    putWhereWritingSwitches();
    placeTakenFromTheStack();
    jumps();
    calls();
    returns();
    relativeSigned();
    relativeWraps();
    conditions();
    sentBytes();
    lockBehind11();
    lockBehindConditions();
    lockBehind231();
    lockBehind240();
    lockedStays();
    check.end();
  }

  /** The machine at 64 in bank 1 of 2, with this STACK and this code there, not yet obeyed. */
  private static CartridgeDesk withStack(int stack, int... code) {
    CartridgeDesk desk = Bench.at64(40, 216, 253);
    desk.run(2 * ((stack - 240) & 255));
    for (int k = 0; k < code.length; k++) {
      desk.spoil(64 + k, code[k]);
    }
    check.due("STACK as wanted", desk.register(STACK), stack);
    check.due("PLACE as wanted", desk.register(PLACE), 64);
    return desk;
  }

  /** The machine at this place of 192 .. 253, where this code stands, not yet obeyed. */
  private static CartridgeDesk at(int place, int... code) {
    CartridgeDesk desk = Bench.at64(53, place, 54, 0, 21, 216, 251);
    desk.run(1);
    for (int b : code) {
      desk.spoil(67, b);
      desk.run(3);
    }
    desk.spoil(66, 192);
    desk.spoil(67, place);
    desk.run(1);
    check.due("PLACE as wanted", desk.register(PLACE), place);
    return desk;
  }

  /** The machine at 255, where these lines are the instruction, not yet obeyed. */
  private static CartridgeDesk at255(int lines) {
    CartridgeDesk desk = Bench.ran(1, 192, 255);
    for (int k = 0; k < 4; k++) {
      if ((lines >> k) % 2 == 1) {
        desk.raise(k);
      }
    }
    check.due("PLACE as wanted", desk.register(PLACE), 255);
    check.due("the instruction there", desk.peek(255), lines);
    return desk;
  }

  private static void byteAtL() {
    check.sentence("6 means the byte at the address L");
    CartridgeDesk first = Bench.ran(2, 53, 0, 70, 2);
    check.due("L 0", first.register(0), 192);
    CartridgeDesk bank0 = Bench.ran(2, 53, 63, 70, 2);
    check.due("L 63", bank0.register(0), 255);
    CartridgeDesk bank1 = Bench.ran(2, 53, 64, 70, 2);
    check.due("L 64", bank1.register(0), 53);
    CartridgeDesk last = Bench.at64(53, 255, 70, 2);
    last.raise(3);
    last.run(2);
    check.due("L 255", last.register(0), 8);
    check.due("register(6)", last.register(6), 8);
    CartridgeDesk over = Bench.ran(3, 53, 255, 21, 70, 2);
    check.due("L wraps from 255 to 0", over.register(5), 0);
    check.due("L 0", over.register(0), 192);
    CartridgeDesk under = Bench.ran(2, 53, 0, 29, 2);
    check.due("L wraps from 0 to 255", under.register(5), 255);
  }

  private static void placeIsAByte() {
    check.sentence("STACK and PLACE, each a byte (PLACE)");
    CartridgeDesk before = at(253, 0);
    before.run(1);
    check.due("behind 253", before.register(PLACE), 254);
    before.run(1);
    check.due("behind 254", before.register(PLACE), 255);
    before.run(1);
    check.due("behind 255", before.register(PLACE), 0);
    before.run(1);
    check.due("and on by the head", before.register(PLACE), 64);
    CartridgeDesk sends = at255(11);
    sends.run(1);
    check.due("an 11 at 255", sends.sent(), 1);
    check.due("behind it", sends.register(PLACE), 0);
  }

  private static void placeBehindN() {
    check.sentence("some have a second one, n; PLACE is behind it then");
    CartridgeDesk desk = at(253, 55, 9);
    desk.run(1);
    check.due("n at 254 is MASK", desk.register(Bench.A), 9);
    check.due("PLACE", desk.register(PLACE), 255);
    CartridgeDesk early = at(252, 55, 200);
    early.run(1);
    check.due("n at 253", early.register(Bench.A), 200);
    check.due("PLACE", early.register(PLACE), 254);
    CartridgeDesk banks = Bench.ready(2, 0, 192, 63);
    banks.spoil(63, 55);
    banks.spoil(64, 7);
    banks.run(2);
    check.due("n at 64, of another bank", banks.register(Bench.A), 7);
    check.due("PLACE", banks.register(PLACE), 65);
    CartridgeDesk ram = Bench.ran(1, 192, 127);
    ram.spoil(127, 55);
    ram.run(1);
    check.due("n at 128, while RAM is off", ram.register(Bench.A), 255);
    check.due("PLACE", ram.register(PLACE), 129);
  }

  private static void placeStays() {
    check.sentence("PLACE stays at it, so it does with 1 and 2 (also at 255 and 0)");
    int[] codes = {1, 2, 12, 13, 14, 15};
    for (int code : codes) {
      CartridgeDesk desk = at255(code);
      check.due("run(1) of " + code, desk.run(1), 1);
      check.due("PLACE at " + code, desk.register(PLACE), 255);
      check.due("state", desk.state(), Math.min(code, 3));
      CartridgeDesk first = Bench.ran(1, 192, 0);
      first.spoil(0, code);
      first.run(1);
      check.due("PLACE at " + code, first.register(PLACE), 0);
      check.due("state", first.state(), Math.min(code, 3));
    }
  }

  private static void becomesN() {
    check.sentence("48 + r: becomes n");
    for (int r = 0; r < 8; r++) {
      for (int n : new int[] {0, 1, 127, 128, 254, 255}) {
        int[] code = Bench.joined(Bench.makeFlags(ALL), new int[] {53, 253, 48 + r, n});
        CartridgeDesk desk = Bench.ran(Bench.FLAG_STEPS + 2, code);
        check.due("register(" + r + ")", desk.register(r), n);
        check.due("flags stay", desk.register(Bench.FLAGS), ALL);
      }
    }
  }

  private static void rBecomesS() {
    check.sentence("64 + 8 * r + s: r becomes s (the first, the last, and 6 of 6)");
    CartridgeDesk first = Bench.obeyed(ALL, 1, 255, 64);
    check.due("64: B becomes B", first.register(0), 255);
    CartridgeDesk second = Bench.ran(2, 49, 254, 65);
    check.due("65: B becomes C", second.register(0), 254);
    CartridgeDesk last = Bench.obeyed(ALL, 255, 1, 127);
    check.due("127: A becomes A", last.register(Bench.A), 255);
    check.due("flags stay", last.register(Bench.FLAGS), ALL);
    CartridgeDesk before = Bench.ran(3, 53, 253, 54, 77, 126);
    check.due("126: A becomes the byte at L", before.register(Bench.A), 77);
    CartridgeDesk same = Bench.ran(3, 53, 253, 54, 78, 118);
    check.due("118: the byte at L stays", same.peek(253), 78);
    CartridgeDesk byL = Bench.ran(3, 53, 253, 54, 200, 110);
    check.due("110: L becomes the byte at L", byL.register(5), 200);
    CartridgeDesk toL = Bench.ran(2, 53, 253, 117);
    check.due("117: the byte at L becomes L", toL.peek(253), 253);
  }

  private static void putOnTheStack() {
    check.sentence("32 + r PUT on the stack: STACK is 1 less, the byte is written there");
    int[][] rows = {{240, 239}, {254, 253}, {193, 192}, {1, 0}, {0, 255}, {255, 254}, {128, 127}};
    for (int[] row : rows) {
      CartridgeDesk desk = withStack(row[0], 48, 9, 32);
      desk.run(2);
      check.due("STACK behind " + row[0], desk.register(STACK), row[1]);
      if (row[1] >= 192) {
        check.due("the byte at " + row[1], desk.peek(row[1]), 9);
      }
    }
    CartridgeDesk off = withStack(192, 48, 9, 32);
    off.run(2);
    check.due("STACK behind 192", off.register(STACK), 191);
    check.due("RAM is off", off.peek(191), 255);
  }

  private static void takenFromTheStack() {
    check.sentence("40 + r TAKEN: it is read there, STACK is 1 more");
    int[][] rows = {{240, 241, 0}, {253, 254, 0}, {254, 255, 0}, {255, 0, 6}, {0, 1, 192},
      {1, 2, 64}, {63, 64, 255}, {127, 128, 255}, {128, 129, 255}, {191, 192, 255}, {192, 193, 0}};
    for (int[] row : rows) {
      CartridgeDesk desk = withStack(row[0], 42);
      desk.raise(1);
      desk.raise(2);
      desk.run(1);
      check.due("STACK behind " + row[0], desk.register(STACK), row[1]);
      check.due("D from " + row[0], desk.register(2), row[2]);
    }
    CartridgeDesk there = Bench.ran(5, 48, 200, 32, 32, 45, 46);
    check.due("L by the stack, then the byte at L", there.peek(200), 200);
    check.due("STACK", there.register(STACK), 240);
  }

  private static void putWhereWritingSwitches() {
    check.sentence("the byte is written there (where writing turns a switch)");
    int[][] rows = {{1, 10, 20}, {32, 10, 20}, {33, 3, 12}, {64, 2, 8}, {65, 1, 6}, {96, 1, 6},
      {97, 1, 5}, {128, 1, 5}};
    for (int[] row : rows) {
      CartridgeDesk desk = withStack(row[0], 48, row[1], 32);
      desk.run(2);
      String call = "putting " + row[1] + " with STACK " + row[0];
      check.due(call, desk.register(Bench.SWITCHES), row[2]);
      check.due("STACK", desk.register(STACK), row[0] - 1);
    }
  }

  private static void placeTakenFromTheStack() {
    check.sentence("10: PLACE is taken from the stack; 5: like 10, and ENABLED");
    for (int code : new int[] {5, 10, 208}) {
      for (int place : new int[] {0, 63, 64, 255}) {
        int[] set = Bench.joined(Bench.makeFlags(ALL), new int[] {55, 171, 48, place, 32, code});
        CartridgeDesk desk = Bench.ran(Bench.FLAG_STEPS + 4, set);
        check.due("PLACE by " + code, desk.register(PLACE), place);
        check.due("STACK", desk.register(STACK), 240);
        check.due("A stays", desk.register(Bench.A), 171);
        check.due("flags stay", desk.register(Bench.FLAGS), ALL);
        check.due("nothing is sent", desk.sent(), 0);
        check.due("ENABLED", desk.register(Bench.ENABLED), code == 5 ? 1 : 0);
      }
      CartridgeDesk last = withStack(255, code);
      last.raise(3);
      last.run(1);
      check.due("PLACE from 255 by " + code, last.register(PLACE), 8);
      check.due("STACK wraps", last.register(STACK), 0);
    }
  }

  private static void jumps() {
    check.sentence("192 + c n: PLACE is n");
    for (int n : new int[] {0, 1, 63, 64, 127, 128, 254, 255}) {
      CartridgeDesk desk = Bench.ran(1, 192, n);
      check.due("192 " + n, desk.register(PLACE), n);
      check.due("STACK", desk.register(STACK), 240);
    }
    CartridgeDesk late = at(253, 192, 15);
    late.run(1);
    check.due("a jump at 253", late.register(PLACE), 15);
    CartridgeDesk none = at(253, 194, 15);
    none.run(1);
    check.due("a jump at 253 that does not hold", none.register(PLACE), 255);
  }

  private static void calls() {
    check.sentence("200 + c n: PLACE is put on the stack, and is n");
    for (int n : new int[] {0, 63, 64, 255}) {
      CartridgeDesk desk = Bench.ran(1, 200, n);
      check.due("200 " + n, desk.register(PLACE), n);
      check.due("STACK", desk.register(STACK), 239);
      check.due("what was put", desk.peek(239), 66);
    }
    CartridgeDesk late = at(253, 200, 15);
    late.run(1);
    check.due("a call at 253", late.register(PLACE), 15);
    check.due("puts 255", late.peek(239), 255);
    CartridgeDesk wraps = withStack(0, 200, 77);
    wraps.run(1);
    check.due("a call with STACK 0", wraps.register(PLACE), 77);
    check.due("STACK wraps", wraps.register(STACK), 255);
    CartridgeDesk none = withStack(0, 202, 77);
    none.run(1);
    check.due("a call that does not hold", none.register(PLACE), 66);
    check.due("puts nothing", none.register(STACK), 0);
  }

  private static void returns() {
    check.sentence("208 + c: PLACE is taken from the stack");
    CartridgeDesk deep = withStack(254, 200, 66, 208);
    deep.run(1);
    check.due("STACK", deep.register(STACK), 253);
    deep.run(1);
    check.due("back", deep.register(PLACE), 66);
    check.due("STACK", deep.register(STACK), 254);
    deep.run(1);
    check.due("once more, by MASK", deep.register(PLACE), 0);
    check.due("STACK", deep.register(STACK), 255);
    CartridgeDesk none = withStack(255, 210);
    none.run(1);
    check.due("one that does not hold", none.register(PLACE), 65);
    check.due("takes nothing", none.register(STACK), 255);
  }

  private static void relativeSigned() {
    check.sentence("216 + c n: PLACE is n more (signed)");
    int[][] rows = {{0, 66}, {1, 67}, {126, 192}, {127, 193}, {128, 194}, {129, 195}, {190, 0},
      {189, 255}, {254, 64}, {255, 65}};
    for (int[] row : rows) {
      CartridgeDesk desk = Bench.ran(1, 216, row[0]);
      check.due("216 " + row[0] + " at 64", desk.register(PLACE), row[1]);
      check.due("STACK", desk.register(STACK), 240);
    }
    CartridgeDesk back = Bench.ready(2, 0, 216, 222);
    back.run(1);
    check.due("34 less 34", back.register(PLACE), 0);
    CartridgeDesk under = Bench.ready(2, 0, 216, 221);
    under.run(1);
    check.due("34 less 35", under.register(PLACE), 255);
  }

  private static void relativeWraps() {
    check.sentence("PLACE is n more (PLACE is a byte)");
    int[][] rows = {{0, 254}, {1, 255}, {2, 0}, {3, 1}, {127, 125}, {128, 126}, {255, 253}};
    for (int[] row : rows) {
      CartridgeDesk desk = at(252, 216, row[0]);
      desk.run(1);
      check.due("216 " + row[0] + " at 252", desk.register(PLACE), row[1]);
    }
    CartridgeDesk last = at(253, 216, 1);
    last.run(1);
    check.due("216 1 at 253", last.register(PLACE), 0);
    CartridgeDesk none = at(252, 218, 2);
    none.run(1);
    check.due("218 2 at 252 does not hold", none.register(PLACE), 254);
  }

  private static void conditions() {
    check.sentence("if c: 0 always, 1 not Z, 2 Z, 3 not C, 4 C");
    for (int flags = 0; flags < 16; flags++) {
      boolean z = flags >= 8;
      boolean c = flags % 2 == 1;
      boolean[] holds = {true, !z, z, !c, c};
      for (int when = 0; when < 5; when++) {
        CartridgeDesk jump = Bench.obeyed(flags, 0, 0, 192 + when, 255);
        int place = jump.register(PLACE);
        check.due("jump " + when + " by " + flags, place == 255 ? 1 : 0, holds[when] ? 1 : 0);
        check.due("flags stay", jump.register(Bench.FLAGS), flags);
        check.due("state", jump.state(), 0);
      }
    }
  }

  private static void sentBytes() {
    check.sentence("11: A is SENT");
    for (int a : new int[] {0, 1, 128, 255}) {
      CartridgeDesk desk = Bench.obeyed(ALL, a, 3, 11);
      check.due("sent", desk.sent(), 1);
      check.due("byteSent(0)", desk.byteSent(0), a);
      check.due("A stays", desk.register(Bench.A), a);
      check.due("flags stay", desk.register(Bench.FLAGS), ALL);
      check.due("PLACE", desk.register(PLACE), Bench.OBEYED_AT + 1);
    }
  }

  /** These codes LOCK, and those next to them do not. */
  private static void dueLocks(int first, int last) {
    for (int code = first - 1; code <= last + 1 && code < 256; code++) {
      boolean locks = code >= first && code <= last;
      CartridgeDesk desk = Bench.obeyed(ALL, 3, 4, code, 64);
      check.due("state behind " + code, desk.state(), locks ? 3 : 0);
      if (locks) {
        check.due("PLACE at " + code, desk.register(PLACE), Bench.OBEYED_AT);
        check.due("STACK", desk.register(STACK), 240);
        check.due("flags stay", desk.register(Bench.FLAGS), ALL);
        check.due("A stays", desk.register(Bench.A), 3);
        check.due("B stays", desk.register(0), 4);
        check.due("nothing is sent", desk.sent(), 0);
      }
    }
  }

  private static void lockBehind11() {
    check.sentence("All other bytes LOCK the machine (12 .. 15)");
    dueLocks(12, 15);
  }

  private static void lockBehindConditions() {
    check.sentence("All other bytes LOCK the machine (c is 5, 6 or 7)");
    dueLocks(197, 199);
    dueLocks(205, 207);
    dueLocks(213, 215);
    dueLocks(221, 223);
  }

  private static void lockBehind231() {
    check.sentence("All other bytes LOCK the machine (232 .. 239)");
    dueLocks(232, 239);
  }

  private static void lockBehind240() {
    check.sentence("All other bytes LOCK the machine (241 .. 255)");
    dueLocks(241, 255);
  }

  private static void lockedStays() {
    check.sentence("LOCK: it does no more, whatever comes, until its beginning");
    CartridgeDesk desk = Bench.ran(4, 53, 254, 54, 15, 4, 0, 255);
    check.due("state", desk.state(), 0);
    desk.run(1);
    check.due("state", desk.state(), 3);
    check.due("ENABLED", desk.register(Bench.ENABLED), 1);
    desk.raise(0);
    check.due("no interrupt", desk.run(5), 0);
    check.due("the line stays up", desk.peek(255), 1);
    check.due("PLACE", desk.register(PLACE), 70);
    desk.restart();
    check.due("state behind restart", desk.state(), 0);
    check.due("and it runs to the lock", desk.run(8), 6);
  }
}
