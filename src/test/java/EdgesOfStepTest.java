/** Each sentence on a step, interrupts, ENABLED and HALT that names a boundary case. */
public final class EdgesOfStepTest {
  private static final Check check = new Check("EdgesOfStepTest");
  private static final int PLACE = Bench.PLACE;
  private static final int STACK = Bench.STACK;
  private static final int ENABLED = Bench.ENABLED;

  private EdgesOfStepTest() {}

  public static void main(String[] args) {
    onlyIfEnabled();
    onlyALineThatIsUp();
    onlyALineInMask();
    theLowestLine();
    upNoMore();
    notEnabledBehindIt();
    placePutOnTheStack();
    placeOfTheStackWraps();
    whereItGoes();
    nothingElse();
    otherwiseTheInstruction();
    enabledBehindTheNext();
    enabledByTwo();
    enabledAtOnceBy5();
    notEnabledBy3();
    haltDoesNothing();
    haltWakesByMask();
    haltWakesBehindThe1();
    haltWakesWithoutEnabled();
    haltThenInterrupt();
    haltWithALineAlreadyUp();
    haltAtTheLastAddress();
    stopIsNotWoken();
    check.end();
  }

  /** The machine stands at 70, a loop of 0s, ENABLED, with this MASK. */
  private static CartridgeDesk listening(int mask) {
    return Bench.ran(4, 53, 254, 54, mask, 4, 0, 0, 216, 253);
  }

  private static final int HALTED_AT = 70;

  /** The machine halts with this MASK, ENABLED or not; behind the 1, B becomes 1 more, twice. */
  private static CartridgeDesk halting(int mask, boolean enabled) {
    int four = enabled ? 4 : 0;
    return Bench.ran(5, 53, 254, 54, mask, four, 0, 1, 16, 16, 2);
  }

  private static void onlyIfEnabled() {
    check.sentence("A STEP: if ENABLED");
    CartridgeDesk off = Bench.ran(4, 53, 254, 54, 15, 0, 0, 0, 216, 253);
    off.raise(0);
    off.run(1);
    check.due("not ENABLED", off.register(PLACE), 71);
    check.due("the line stays", off.peek(255), 1);
    CartridgeDesk on = listening(15);
    on.raise(0);
    on.run(1);
    check.due("ENABLED", on.register(PLACE), 16);
  }

  private static void onlyALineThatIsUp() {
    check.sentence("A STEP: and a line is up");
    CartridgeDesk desk = listening(15);
    desk.run(3);
    check.due("no line is up", desk.register(STACK), 240);
    desk.raise(3);
    desk.run(1);
    check.due("one is", desk.register(STACK), 239);
  }

  private static void onlyALineInMask() {
    check.sentence("A STEP: that is in MASK");
    for (int line = 0; line < 4; line++) {
      CartridgeDesk others = listening(15 - (1 << line));
      others.raise(line);
      others.run(3);
      check.due("all but line " + line, others.register(STACK), 240);
      check.due("it stays up", others.peek(255), 1 << line);
      CartridgeDesk one = listening(1 << line);
      one.raise(line);
      one.run(1);
      check.due("line " + line + " alone", one.register(PLACE), 16 + 4 * line);
    }
    CartridgeDesk none = listening(0);
    for (int line = 0; line < 4; line++) {
      none.raise(line);
    }
    none.run(3);
    check.due("MASK 0", none.register(STACK), 240);
    CartridgeDesk high = listening(240);
    high.raise(0);
    high.run(3);
    check.due("MASK has four bits", high.register(STACK), 240);
  }

  private static void theLowestLine() {
    check.sentence("A STEP: it is up no more (the lowest one)");
    for (int mask = 1; mask < 16; mask++) {
      for (int lines = 1; lines < 16; lines++) {
        CartridgeDesk desk = listening(mask);
        for (int k = 0; k < 4; k++) {
          if ((lines >> k) % 2 == 1) {
            desk.raise(k);
          }
        }
        desk.run(1);
        int both = mask & lines;
        int lowest = both % 2 == 1 ? 0 : both % 4 == 2 ? 1 : both % 8 == 4 ? 2 : 3;
        int due = both == 0 ? 71 : 16 + 4 * lowest;
        check.due("MASK " + mask + ", lines " + lines, desk.register(PLACE), due);
        check.due("lines behind it", desk.peek(255), both == 0 ? lines : lines - (1 << lowest));
      }
    }
  }

  private static void upNoMore() {
    check.sentence("A STEP: it is up no more");
    CartridgeDesk desk = listening(15);
    desk.raise(1);
    desk.raise(1);
    desk.run(1);
    check.due("once, though raised twice", desk.peek(255), 0);
    desk.spoil(20, 5);
    desk.run(1);
    check.due("back by 5", desk.register(PLACE), 70);
    desk.run(1);
    check.due("and no second time", desk.register(PLACE), 71);
    desk.raise(1);
    desk.run(1);
    check.due("but when it is up again", desk.register(PLACE), 20);
  }

  private static void notEnabledBehindIt() {
    check.sentence("A STEP: not ENABLED");
    CartridgeDesk desk = listening(15);
    desk.spoil(16, 0);
    desk.spoil(17, 0);
    desk.raise(0);
    desk.raise(2);
    check.due("before", desk.register(ENABLED), 1);
    desk.run(1);
    check.due("behind it", desk.register(ENABLED), 0);
    desk.run(2);
    check.due("the other line waits", desk.register(PLACE), 18);
    check.due("and is up", desk.peek(255), 4);
  }

  private static void placePutOnTheStack() {
    check.sentence("A STEP: PLACE put on the stack");
    CartridgeDesk desk = listening(15);
    desk.raise(0);
    desk.run(1);
    check.due("STACK", desk.register(STACK), 239);
    check.due("what was put", desk.peek(239), 70);
    CartridgeDesk first = Bench.ran(4, 53, 254, 54, 8, 4, 192, 255);
    check.due("PLACE", first.register(PLACE), 255);
    first.raise(3);
    first.run(1);
    check.due("PLACE 255 is put", first.peek(239), 255);
    check.due("PLACE", first.register(PLACE), 28);
  }

  private static void placeOfTheStackWraps() {
    check.sentence("A STEP: PLACE put on the stack (STACK is a byte)");
    CartridgeDesk desk = Bench.at64(40, 216, 253);
    desk.run(2 * 16);
    int[] code = {53, 254, 54, 1, 4, 0, 0};
    for (int k = 0; k < code.length; k++) {
      desk.spoil(64 + k, code[k]);
    }
    desk.run(4);
    check.due("STACK", desk.register(STACK), 0);
    desk.raise(0);
    desk.run(1);
    check.due("STACK wraps", desk.register(STACK), 255);
    check.due("PLACE", desk.register(PLACE), 16);
  }

  private static void whereItGoes() {
    check.sentence("A STEP: PLACE is 16 + 4 * its number");
    int[] due = {16, 20, 24, 28};
    for (int line = 0; line < 4; line++) {
      CartridgeDesk desk = listening(15);
      desk.raise(line);
      desk.run(1);
      check.due("line " + line, desk.register(PLACE), due[line]);
    }
  }

  private static void nothingElse() {
    check.sentence("A STEP: nothing else");
    CartridgeDesk desk = Bench.ran(4, 53, 254, 54, 15, 4, 0, 16, 11);
    desk.raise(0);
    check.due("it counts", desk.run(1), 1);
    check.due("B", desk.register(0), 0);
    check.due("sent", desk.sent(), 0);
    check.due("flags", desk.register(Bench.FLAGS), 0);
    check.due("state: the 1 at 16 is not obeyed", desk.state(), 0);
    desk.run(1);
    check.due("but then it is", desk.state(), 1);
  }

  private static void otherwiseTheInstruction() {
    check.sentence("A STEP: Otherwise the instruction at PLACE");
    CartridgeDesk desk = Bench.ran(4, 53, 254, 54, 15, 4, 0, 16, 11);
    check.due("one instruction a step", desk.run(1), 1);
    check.due("B", desk.register(0), 1);
    check.due("sent", desk.sent(), 0);
    check.due("the next", desk.run(1), 1);
    check.due("sent", desk.sent(), 1);
  }

  private static void enabledBehindTheNext() {
    check.sentence("4: ENABLED behind the next instruction");
    CartridgeDesk desk = Bench.ran(3, 53, 254, 54, 15, 4, 16, 16, 2);
    desk.raise(0);
    check.due("behind the 4", desk.register(ENABLED), 0);
    desk.run(1);
    check.due("the next is obeyed, though a line is up", desk.register(0), 1);
    check.due("behind the next", desk.register(ENABLED), 1);
    desk.run(1);
    check.due("then the interrupt", desk.register(PLACE), 16);
    check.due("B", desk.register(0), 1);
    check.due("not ENABLED again", desk.register(ENABLED), 0);
    CartridgeDesk call = Bench.ran(2, 4, 200, 90);
    check.due("a call may be the next", call.register(ENABLED), 1);
    check.due("PLACE", call.register(PLACE), 90);
    CartridgeDesk lock = Bench.ran(2, 4, 255);
    check.due("a byte that LOCKS, too", lock.register(ENABLED), 1);
    CartridgeDesk stop = Bench.ran(2, 4, 2);
    check.due("and a 2", stop.register(ENABLED), 1);
  }

  private static void enabledByTwo() {
    check.sentence("4: ENABLED behind the next instruction (which is a 4)");
    CartridgeDesk desk = Bench.ran(1, 4, 4, 0, 2);
    check.due("behind the first", desk.register(ENABLED), 0);
    desk.run(1);
    check.due("behind the second", desk.register(ENABLED), 1);
    desk.run(1);
    check.due("behind the 0", desk.register(ENABLED), 1);
  }

  private static void enabledAtOnceBy5() {
    check.sentence("5: like 10, and ENABLED");
    CartridgeDesk desk = Bench.ran(4, 53, 254, 54, 1, 48, 80, 32, 5);
    desk.raise(0);
    check.due("before", desk.register(ENABLED), 0);
    desk.run(1);
    check.due("behind it", desk.register(ENABLED), 1);
    check.due("PLACE", desk.register(PLACE), 80);
    desk.run(1);
    check.due("the next step is an interrupt", desk.register(PLACE), 16);
    check.due("to come back there", desk.peek(239), 80);
  }

  private static void notEnabledBy3() {
    check.sentence("3: not ENABLED");
    CartridgeDesk desk = Bench.ran(4, 53, 254, 54, 1, 4, 0, 3, 0, 0, 2);
    check.due("before", desk.register(ENABLED), 1);
    desk.run(1);
    check.due("at once", desk.register(ENABLED), 0);
    desk.raise(0);
    desk.run(2);
    check.due("no interrupt", desk.register(PLACE), 73);
    CartridgeDesk off = Bench.ran(1, 3, 0);
    check.due("when it was not", off.register(ENABLED), 0);
    CartridgeDesk early = Bench.ran(4, 53, 254, 54, 1, 4, 0, 3, 0);
    early.raise(0);
    early.run(1);
    check.due("a line before it comes first", early.register(PLACE), 16);
  }

  private static void haltDoesNothing() {
    check.sentence("A machine that HALTS does nothing until a line is up that is in MASK");
    CartridgeDesk desk = halting(4, true);
    check.due("state", desk.state(), 1);
    check.due("its steps count", desk.run(2000), 2000);
    desk.raise(0);
    desk.raise(1);
    desk.raise(3);
    check.due("lines that are not in MASK", desk.run(9), 9);
    check.due("state", desk.state(), 1);
    check.due("PLACE", desk.register(PLACE), HALTED_AT);
    check.due("STACK", desk.register(STACK), 240);
    check.due("lines", desk.peek(255), 11);
    check.due("B", desk.register(0), 0);
    CartridgeDesk deaf = halting(0, true);
    for (int k = 0; k < 4; k++) {
      deaf.raise(k);
    }
    deaf.run(9);
    check.due("MASK 0", deaf.state(), 1);
  }

  private static void haltWakesByMask() {
    check.sentence("until a line is up that is in MASK");
    for (int line = 0; line < 4; line++) {
      CartridgeDesk desk = halting(1 << line, false);
      for (int other = 0; other < 4; other++) {
        if (other != line) {
          desk.raise(other);
        }
      }
      desk.run(1);
      check.due("all but line " + line, desk.state(), 1);
      desk.raise(line);
      desk.run(1);
      check.due("line " + line, desk.state(), 0);
    }
  }

  private static void haltWakesBehindThe1() {
    check.sentence("then it goes on behind the 1 (that step does nothing else)");
    CartridgeDesk desk = halting(2, false);
    desk.raise(1);
    check.due("raising is no step", desk.state(), 1);
    check.due("PLACE", desk.register(PLACE), HALTED_AT);
    check.due("run(1)", desk.run(1), 1);
    check.due("state", desk.state(), 0);
    check.due("PLACE", desk.register(PLACE), HALTED_AT + 1);
    check.due("B", desk.register(0), 0);
    check.due("lines", desk.peek(255), 2);
    check.due("STACK", desk.register(STACK), 240);
    desk.run(1);
    check.due("B", desk.register(0), 1);
  }

  private static void haltWakesWithoutEnabled() {
    check.sentence("it goes on behind the 1 (not ENABLED)");
    CartridgeDesk desk = halting(1, false);
    desk.raise(0);
    desk.run(3);
    check.due("no interrupt", desk.register(0), 2);
    check.due("the line is up yet", desk.peek(255), 1);
    check.due("not ENABLED", desk.register(ENABLED), 0);
  }

  private static void haltThenInterrupt() {
    check.sentence("it goes on behind the 1 (ENABLED: the interrupt is the step behind)");
    CartridgeDesk desk = halting(8, true);
    desk.raise(3);
    desk.run(1);
    check.due("PLACE", desk.register(PLACE), HALTED_AT + 1);
    check.due("the line is up yet", desk.peek(255), 8);
    check.due("ENABLED yet", desk.register(ENABLED), 1);
    desk.run(1);
    check.due("PLACE", desk.register(PLACE), 28);
    check.due("what was put", desk.peek(239), HALTED_AT + 1);
    check.due("the line", desk.peek(255), 0);
    check.due("B", desk.register(0), 0);
  }

  private static void haltWithALineAlreadyUp() {
    check.sentence("1 HALT (a line in MASK is up before)");
    CartridgeDesk desk = Bench.ran(2, 53, 254, 54, 1, 1, 16, 2);
    desk.raise(0);
    desk.run(1);
    check.due("it halts", desk.state(), 1);
    check.due("PLACE", desk.register(PLACE), 68);
    desk.run(1);
    check.due("for one step", desk.state(), 0);
    check.due("PLACE", desk.register(PLACE), 69);
    CartridgeDesk enabled = Bench.ran(3, 53, 254, 54, 1, 4, 1, 16, 2);
    enabled.raise(0);
    enabled.run(1);
    check.due("4 and then 1: it halts", enabled.state(), 1);
    check.due("ENABLED", enabled.register(ENABLED), 1);
    enabled.run(1);
    check.due("goes on", enabled.register(PLACE), 70);
    enabled.run(1);
    check.due("and is interrupted", enabled.register(PLACE), 16);
  }

  private static void haltAtTheLastAddress() {
    check.sentence("it goes on behind the 1 (PLACE is a byte)");
    CartridgeDesk desk = Bench.ran(3, 53, 254, 54, 1, 192, 255);
    desk.raise(0);
    desk.run(1);
    check.due("the line is a 1 at 255", desk.state(), 1);
    check.due("PLACE", desk.register(PLACE), 255);
    desk.run(1);
    check.due("it goes on", desk.state(), 0);
    check.due("at 0", desk.register(PLACE), 0);
  }

  private static void stopIsNotWoken() {
    check.sentence("2 STOP (a line wakes only a machine that HALTS)");
    CartridgeDesk desk = Bench.ran(5, 53, 254, 54, 15, 4, 0, 2, 16);
    check.due("state", desk.state(), 2);
    desk.raise(0);
    check.due("run(5)", desk.run(5), 0);
    check.due("PLACE", desk.register(PLACE), 70);
    check.due("the line", desk.peek(255), 1);
    check.due("ENABLED stays", desk.register(ENABLED), 1);
    check.due("state", desk.state(), 2);
  }
}
