/** Promises 11 to 18: restart, raise, run, state, register, peek, sent, byteSent; and a step. */
public final class MachineTest {
  private static final Check check = new Check("MachineTest");

  private static final int[] LOOP = {216, 254};

  private MachineTest() {}

  public static void main(String[] args) {
    restart();
    restartForgetsAll();
    restartWithoutImage();
    raise();
    run();
    statesAndRun();
    registers();
    peek();
    sent();
    interruptOrder();
    interruptStep();
    enabling();
    enablingAndInterrupt();
    halting();
    haltingAndInterrupt();
    check.end();
  }

  private static void restart() {
    CartridgeDesk desk = Bench.ready(8, 0, 55, 10, 53, 0, 119, 53, 70, 55, 1, 119, 53, 130, 119, 53,
        200, 119, 53, 254, 119, 39, 11, 53, 100, 119);
    desk.run(15);
    desk.raise(0);
    check.due("switches", desk.register(Bench.SWITCHES), 22);
    check.due("200", desk.peek(200), 1);
    check.due("MASK", desk.peek(254), 1);
    check.due("STACK", desk.register(Bench.STACK), 239);
    check.due("sent", desk.sent(), 1);
    desk.restart();
    int[] due = {0, 0, 0, 0, 0, 0, 192, 0, 240, 0, 0, 4, 0};
    for (int r = 0; r < due.length; r++) {
      check.due("register(" + r + ")", desk.register(r), due[r]);
    }
    check.due("sent", desk.sent(), 0);
    check.none("byteSent(0)", () -> desk.byteSent(0));
    for (int address = 192; address < 256; address++) {
      check.due("peek(" + address + ")", desk.peek(address), 0);
    }
    check.due("state", desk.state(), 0);
    desk.run(4);
    check.due("RAM is on again", desk.register(Bench.SWITCHES), 20);
    check.due("RAM is 0 again", desk.peek(130), 0);
    CartridgeDesk ended = Bench.ran(1, 12);
    ended.restart();
    check.due("a locked machine begins anew", ended.state(), 0);
    check.due("and runs", ended.run(9), 2);
    CartridgeDesk soon = Bench.ran(1, 4, 0);
    soon.restart();
    soon.run(1);
    check.due("no 4 is left over", soon.register(Bench.ENABLED), 0);
  }

  private static void restartForgetsAll() {
    CartridgeDesk desk = Bench.ready(2, 0, 55, 10, 53, 0, 119, 53, 128, 119, 53, 192, 119, 55, 1,
        53, 96, 119, 48, 7, 168, 8, 4, 0);
    desk.run(15);
    check.due("RAM", desk.peek(128), 10);
    check.due("192", desk.peek(192), 10);
    check.due("switches", desk.register(Bench.SWITCHES), 21);
    check.due("B", desk.register(0), 7);
    check.due("flags", desk.register(Bench.FLAGS), Bench.C);
    check.due("ENABLED", desk.register(Bench.ENABLED), 1);
    desk.restart();
    check.due("192", desk.peek(192), 0);
    check.due("switches", desk.register(Bench.SWITCHES), 4);
    check.due("B", desk.register(0), 0);
    check.due("flags", desk.register(Bench.FLAGS), 0);
    check.due("ENABLED", desk.register(Bench.ENABLED), 0);
    desk.run(4);
    check.due("RAM is on again", desk.register(Bench.SWITCHES), 20);
    check.due("and is 0", desk.peek(128), 0);
  }

  private static void restartWithoutImage() {
    CartridgeDesk desk = new CartridgeDesk();
    desk.raise(3);
    desk.restart();
    check.due("state", desk.state(), 0);
    check.due("STACK", desk.register(Bench.STACK), 240);
    check.none("run", () -> desk.run(1));
  }

  private static void raise() {
    CartridgeDesk desk = Bench.at64(LOOP);
    check.argument("raise(-1)", () -> desk.raise(-1));
    check.argument("raise(4)", () -> desk.raise(4));
    check.argument("raise(32)", () -> desk.raise(32));
    check.due("lines", desk.peek(255), 0);
    desk.raise(3);
    check.due("line 3", desk.peek(255), 8);
    desk.raise(0);
    desk.raise(0);
    check.due("lines 0 and 3", desk.peek(255), 9);
    desk.raise(1);
    desk.raise(2);
    check.due("all lines", desk.peek(255), 15);
    CartridgeDesk early = new CartridgeDesk();
    early.raise(1);
    Bench.addSection(early, 1, LOOP);
    early.link(2);
    check.due("a link begins without lines", early.peek(255), 0);
  }

  private static void run() {
    CartridgeDesk desk = Bench.at64(16, 216, 253);
    check.due("run(0)", desk.run(0), 0);
    check.due("run(-5)", desk.run(-5), 0);
    check.due("run(least)", desk.run(Integer.MIN_VALUE), 0);
    check.due("nothing was done", desk.register(0), 0);
    check.due("run(1)", desk.run(1), 1);
    check.due("one step", desk.register(0), 1);
    check.due("run(2000)", desk.run(2000), 2000);
    check.due("1001", desk.register(0), 1001 & 255);
    check.due("run(2001)", desk.run(2001), 2000);
    check.due("2001", desk.register(0), 2001 & 255);
    check.due("run(most)", desk.run(Integer.MAX_VALUE), 2000);
    check.due("3001", desk.register(0), 3001 & 255);
  }

  private static void statesAndRun() {
    CartridgeDesk going = Bench.at64(LOOP);
    check.due("it goes on", going.state(), 0);
    CartridgeDesk halted = Bench.at64(0, 1, 0);
    check.due("halts count", halted.run(50), 50);
    check.due("it halts", halted.state(), 1);
    check.due("at the 1", halted.register(Bench.PLACE), 65);
    CartridgeDesk stopped = Bench.at64(0, 2, 0);
    check.due("the 2 counts", stopped.run(50), 2);
    check.due("it stopped", stopped.state(), 2);
    check.due("at the 2", stopped.register(Bench.PLACE), 65);
    check.due("and does no more", stopped.run(50), 0);
    stopped.raise(0);
    check.due("also with a line", stopped.run(50), 0);
    CartridgeDesk locked = Bench.at64(0, 0, 13);
    check.due("the byte that locks counts", locked.run(50), 3);
    check.due("it is locked", locked.state(), 3);
    check.due("at that byte", locked.register(Bench.PLACE), 66);
    check.due("and does no more", locked.run(50), 0);
    locked.spoil(66, 0);
    check.due("even when that is mended", locked.run(50), 0);
  }

  private static void registers() {
    CartridgeDesk desk = Bench.ran(8, 48, 1, 49, 2, 50, 3, 51, 4, 52, 5, 53, 200, 55, 8, 54, 99);
    int[] due = {1, 2, 3, 4, 5, 200, 99, 8, 240, 80, 0, 4, 0};
    for (int r = 0; r < due.length; r++) {
      check.due("register(" + r + ")", desk.register(r), due[r]);
    }
    check.none("register(-1)", () -> desk.register(-1));
    check.none("register(13)", () -> desk.register(13));
    check.none("register(most)", () -> desk.register(Integer.MAX_VALUE));
    for (int flags = 0; flags < 16; flags++) {
      CartridgeDesk flagged = Bench.ran(Bench.FLAG_STEPS, Bench.makeFlags(flags));
      check.due("flags", flagged.register(Bench.FLAGS), flags);
    }
  }

  private static void peek() {
    CartridgeDesk desk = Bench.at64(LOOP);
    check.none("peek(-1)", () -> desk.peek(-1));
    check.none("peek(256)", () -> desk.peek(256));
    check.due("peek(0)", desk.peek(0), 192);
    check.due("peek(63)", desk.peek(63), 255);
    check.due("peek(64)", desk.peek(64), 216);
    check.due("peek(65)", desk.peek(65), 254);
    check.due("peek(128)", desk.peek(128), 255);
    check.due("peek(253)", desk.peek(253), 0);
  }

  private static void sent() {
    CartridgeDesk desk = Bench.at64(11, 23, 216, 252);
    check.none("byteSent(0) of none", () -> desk.byteSent(0));
    desk.run(3 * 99);
    check.due("sent", desk.sent(), 99);
    check.due("byteSent(98)", desk.byteSent(98), 98);
    check.none("byteSent(99) of 99", () -> desk.byteSent(99));
    check.none("byteSent(-1)", () -> desk.byteSent(-1));
    desk.run(3 * 200);
    check.due("sent", desk.sent(), 299);
    for (int k = 0; k < 100; k++) {
      check.due("byteSent(" + k + ")", desk.byteSent(k), k);
    }
    check.none("byteSent(100)", () -> desk.byteSent(100));
    check.none("byteSent(298)", () -> desk.byteSent(298));
    desk.restart();
    check.due("sent anew", desk.sent(), 0);
    desk.run(5);
    check.due("one again", desk.sent(), 2);
    check.due("byteSent(1)", desk.byteSent(1), 1);
    check.none("byteSent(2) is gone", () -> desk.byteSent(2));
  }

  /** The machine loops with this MASK, and is ENABLED. */
  private static CartridgeDesk listening(int mask) {
    return Bench.ran(5, 53, 254, 54, mask, 4, 0, 216, 254);
  }

  private static void interruptOrder() {
    CartridgeDesk desk = listening(14);
    desk.raise(3);
    desk.raise(0);
    desk.raise(2);
    desk.run(1);
    check.due("line 2 is the lowest in MASK", desk.register(Bench.PLACE), 24);
    check.due("lines 0 and 3 stay up", desk.peek(255), 9);
    CartridgeDesk masked = listening(8);
    masked.raise(0);
    masked.raise(1);
    masked.raise(2);
    masked.run(1);
    check.due("not in MASK", masked.register(Bench.PLACE), 70);
    masked.raise(3);
    masked.run(1);
    check.due("line 3", masked.register(Bench.PLACE), 28);
    check.due("others stay up", masked.peek(255), 7);
    CartridgeDesk deaf = Bench.ran(3, 53, 254, 54, 15, 216, 254);
    deaf.raise(1);
    deaf.run(3);
    check.due("not ENABLED", deaf.register(Bench.PLACE), 68);
    check.due("and the line stays", deaf.peek(255), 2);
  }

  private static void interruptStep() {
    CartridgeDesk desk = listening(15);
    check.due("ENABLED", desk.register(Bench.ENABLED), 1);
    desk.raise(0);
    check.due("run(1)", desk.run(1), 1);
    check.due("PLACE", desk.register(Bench.PLACE), 16);
    check.due("STACK", desk.register(Bench.STACK), 239);
    check.due("what was put", desk.peek(239), 70);
    check.due("not ENABLED", desk.register(Bench.ENABLED), 0);
    check.due("the line is down", desk.peek(255), 0);
    check.due("nothing else was done", desk.state(), 0);
    desk.raise(1);
    desk.run(1);
    check.due("the handler is not interrupted", desk.state(), 1);
    desk.run(1);
    check.due("but wakes for the line", desk.register(Bench.PLACE), 17);
    desk.run(1);
    check.due("and goes back", desk.register(Bench.PLACE), 70);
    check.due("STACK is back", desk.register(Bench.STACK), 240);
    check.due("10 does not enable", desk.register(Bench.ENABLED), 0);
  }

  private static void enabling() {
    CartridgeDesk desk = Bench.ran(1, 4, 0, 3, 4, 4, 3, 0, 4, 2);
    int[] due = {0, 1, 0, 0, 1, 1, 1, 1, 1};
    for (int k = 0; k < due.length; k++) {
      check.due("ENABLED behind " + (k + 1), desk.register(Bench.ENABLED), due[k]);
      desk.run(1);
    }
    CartridgeDesk off = Bench.ran(3, 4, 0, 3, 0, 0);
    check.due("3", off.register(Bench.ENABLED), 0);
    off.run(2);
    check.due("it stays so", off.register(Bench.ENABLED), 0);
    CartridgeDesk back = Bench.ran(2, 55, 70, 39, 5, 0, 0, 2);
    check.due("before the 5", back.register(Bench.ENABLED), 0);
    back.run(1);
    check.due("5 enables at once", back.register(Bench.ENABLED), 1);
    CartridgeDesk halt = Bench.ran(2, 4, 1);
    check.due("behind a 1", halt.register(Bench.ENABLED), 1);
    check.due("it halts", halt.state(), 1);
  }

  private static void enablingAndInterrupt() {
    CartridgeDesk desk = Bench.ran(3, 53, 254, 54, 15, 4, 16, 16, 2);
    desk.raise(2);
    desk.run(1);
    check.due("a 4 waits an instruction", desk.register(0), 1);
    check.due("PLACE", desk.register(Bench.PLACE), 70);
    desk.run(1);
    check.due("then comes the interrupt", desk.register(Bench.PLACE), 24);
    check.due("what was put", desk.peek(239), 70);
    check.due("B", desk.register(0), 1);
    CartridgeDesk between = Bench.ran(5, 53, 254, 54, 1, 4, 0, 4, 0, 2);
    between.raise(0);
    between.run(1);
    check.due("an interrupt behind a second 4", between.register(Bench.PLACE), 16);
    check.due("not ENABLED", between.register(Bench.ENABLED), 0);
    between.run(1);
    check.due("the 4 waits for the handler's first", between.register(Bench.ENABLED), 1);
    CartridgeDesk back = Bench.ran(4, 53, 254, 54, 1, 55, 75, 39, 5, 2, 2, 2, 16, 2);
    back.raise(0);
    back.run(1);
    check.due("5 goes back", back.register(Bench.PLACE), 75);
    back.run(1);
    check.due("and the interrupt comes at once", back.register(Bench.PLACE), 16);
  }

  private static void halting() {
    CartridgeDesk desk = Bench.ran(3, 53, 254, 54, 6, 1, 16, 1, 16, 2);
    check.due("it halts", desk.state(), 1);
    desk.raise(0);
    desk.raise(3);
    check.due("no line is in MASK", desk.run(7), 7);
    check.due("it halts", desk.state(), 1);
    check.due("at the 1", desk.register(Bench.PLACE), 68);
    desk.raise(2);
    check.due("raising alone does nothing", desk.state(), 1);
    desk.run(1);
    check.due("it goes on", desk.state(), 0);
    check.due("behind the 1", desk.register(Bench.PLACE), 69);
    check.due("that step does nothing else", desk.register(0), 0);
    check.due("the lines stay", desk.peek(255), 13);
    desk.run(1);
    check.due("B", desk.register(0), 1);
    desk.run(1);
    check.due("a 1 halts, though a line is up", desk.state(), 1);
    desk.run(1);
    check.due("for one step", desk.state(), 0);
    check.due("behind the second 1", desk.register(Bench.PLACE), 71);
  }

  private static void haltingAndInterrupt() {
    CartridgeDesk desk = Bench.ran(5, 53, 254, 54, 15, 4, 0, 1, 16, 2);
    check.due("it halts", desk.state(), 1);
    desk.raise(1);
    desk.run(1);
    check.due("first it goes on", desk.register(Bench.PLACE), 71);
    check.due("the line is up yet", desk.peek(255), 2);
    check.due("STACK", desk.register(Bench.STACK), 240);
    desk.run(1);
    check.due("then it is interrupted", desk.register(Bench.PLACE), 20);
    check.due("to come back behind the 1", desk.peek(239), 71);
    check.due("the line is down", desk.peek(255), 0);
    check.due("B", desk.register(0), 0);
    CartridgeDesk early = Bench.ran(4, 53, 254, 54, 15, 4, 0, 1, 2);
    early.raise(3);
    early.run(1);
    check.due("the interrupt comes before the 1", early.register(Bench.PLACE), 28);
    check.due("to come back to it", early.peek(239), 70);
  }
}
