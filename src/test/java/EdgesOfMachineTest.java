/** Each sentence of promises 11 to 18 that names a boundary case. */
public final class EdgesOfMachineTest {
  private static final Check check = new Check("EdgesOfMachineTest");
  private static final int LEAST = Integer.MIN_VALUE;
  private static final int MOST = Integer.MAX_VALUE;
  private static final int[] FIRST = {0, 0, 0, 0, 0, 0, 192, 0, 240, 0, 0, 4, 0};

  private EdgesOfMachineTest() {}

  public static void main(String[] args) {
    atFirst();
    restartAtItsBeginning();
    restartLeavesTheImage();
    restartWithoutImage();
    raiseLine();
    raiseWithoutImage();
    raiseTwice();
    runAtMostN();
    runAbove2000();
    runBelow0();
    runOfHalting();
    runToTheStop();
    runToTheLock();
    runWithoutImage();
    states();
    registerNumbers();
    registerFlags();
    registerSwitches();
    registerEnabled();
    registerAtL();
    peekAddresses();
    peekWithoutImage();
    peekChangesNothing();
    sentCount();
    sentSinceTheBeginning();
    byteSentOfNone();
    byteSentLast();
    byteSentHundred();
    check.end();
  }

  private static void dueFirst(String what, CartridgeDesk desk) {
    for (int r = 0; r < FIRST.length; r++) {
      check.due(what + ": register(" + r + ")", desk.register(r), FIRST[r]);
    }
    check.due(what + ": state", desk.state(), 0);
    check.due(what + ": sent", desk.sent(), 0);
    for (int address = 128; address < 256; address++) {
      check.due(what + ": peek", desk.peek(address), address < 192 ? 255 : 0);
    }
  }

  private static void atFirst() {
    check.sentence("Terms: All is 0 at first, but STACK 240; RAM OFF, LOW 1, HIGH 0, MODE 0");
    CartridgeDesk desk = new CartridgeDesk();
    for (int r = 0; r < FIRST.length; r++) {
      if (r != 6) {
        check.due("register(" + r + ")", desk.register(r), FIRST[r]);
      }
    }
    desk.section(0);
    desk.link(8);
    dueFirst("linked", desk);
  }

  /** All that can be is not as at first: registers, flags, switches, RAM, bytes, MASK, lines. */
  private static CartridgeDesk busy() {
    CartridgeDesk desk = Bench.ready(4, 0, 55, 10, 53, 0, 119, 53, 128, 119, 53, 192, 119, 53, 253,
        119, 53, 254, 119, 11, 48, 3, 32, 53, 64, 112, 53, 96, 112, 4, 8, 2);
    desk.run(20);
    desk.raise(2);
    return desk;
  }

  private static void restartAtItsBeginning() {
    check.sentence("Promise 11: The machine is at its beginning");
    CartridgeDesk desk = busy();
    int[] due = {3, 0, 0, 0, 0, 96, 255, 10, 239, 61, 1, 23, 1};
    for (int r = 0; r < due.length; r++) {
      check.due("before: register(" + r + ")", desk.register(r), due[r]);
    }
    for (int address : new int[] {192, 253, 254}) {
      check.due("before: peek(" + address + ")", desk.peek(address), 10);
    }
    desk.restart();
    dueFirst("restarted", desk);
    desk.run(4);
    check.due("RAM is on", desk.register(Bench.SWITCHES), 20);
    for (int address = 128; address < 192; address++) {
      check.due("and is 0", desk.peek(address), 0);
    }
    for (int end = 1; end < 4; end++) {
      CartridgeDesk ended = Bench.ran(1, end == 3 ? 255 : end);
      check.due("it ended", ended.state(), end);
      ended.restart();
      check.due("and is at its beginning", ended.state(), 0);
      check.due("PLACE", ended.register(Bench.PLACE), 0);
      check.due("run", ended.run(1), 1);
    }
    CartridgeDesk waiting = Bench.ran(1, 4, 0);
    waiting.restart();
    waiting.run(1);
    check.due("a 4 waits no more", waiting.register(Bench.ENABLED), 0);
  }

  private static void restartLeavesTheImage() {
    check.sentence("Promise 11: The machine (not the image, nor what packed() tells)");
    CartridgeDesk desk = busy();
    desk.spoil(100, 9);
    desk.restart();
    check.due("a spoiled byte", desk.image(100), 9);
    check.due("valid", desk.valid(), 3);
    check.due("packed", desk.packed(0, 1), 32);
    check.due("the sections", desk.link(4), 30);
  }

  private static void restartWithoutImage() {
    check.sentence("Promise 11: The machine is at its beginning (without an image)");
    CartridgeDesk desk = new CartridgeDesk();
    desk.restart();
    desk.raise(1);
    desk.restart();
    check.due("STACK", desk.register(8), 240);
    check.due("state", desk.state(), 0);
    check.none("image", () -> desk.image(0));
    check.none("run", () -> desk.run(1));
  }

  private static void raiseLine() {
    check.sentence("Promise 12: Line k (0 .. 3) is up. IllegalArgumentException when none");
    for (int k = 0; k < 4; k++) {
      CartridgeDesk desk = Bench.at64(0);
      desk.raise(k);
      check.due("raise(" + k + ")", desk.peek(255), 1 << k);
    }
    Twins twins = new Twins(check, EdgesOfMachineTest::busy);
    for (int k : new int[] {-1, 4, 5, 31, 32, 33, LEAST, MOST}) {
      twins.argument("raise(" + k + ")", desk -> desk.raise(k));
    }
  }

  private static void raiseWithoutImage() {
    check.sentence("Promise 12: Line k is up (without an image)");
    CartridgeDesk desk = new CartridgeDesk();
    desk.raise(0);
    desk.raise(3);
    check.argument("raise(4)", () -> desk.raise(4));
    check.argument("raise(-1)", () -> desk.raise(-1));
    check.due("state", desk.state(), 0);
  }

  private static void raiseTwice() {
    check.sentence("Promise 12: Line k is up (it was already; all are)");
    CartridgeDesk desk = Bench.at64(0);
    desk.raise(3);
    desk.raise(3);
    check.due("twice", desk.peek(255), 8);
    for (int k = 0; k < 4; k++) {
      desk.raise(k);
    }
    check.due("all", desk.peek(255), 15);
    desk.raise(0);
    check.due("all, and one again", desk.peek(255), 15);
  }

  /** The first step, the third, and so on: B becomes 1 more. */
  private static CartridgeDesk counting() {
    CartridgeDesk desk = Bench.at64(16, 192, 64);
    check.due("B", desk.register(0), 0);
    return desk;
  }

  private static void runAtMostN() {
    check.sentence("Promise 13: At most n steps are done. Answers how many");
    CartridgeDesk desk = counting();
    check.due("run(0)", desk.run(0), 0);
    check.due("B", desk.register(0), 0);
    check.due("PLACE", desk.register(Bench.PLACE), 64);
    check.due("run(1)", desk.run(1), 1);
    check.due("B", desk.register(0), 1);
    check.due("run(2)", desk.run(2), 2);
    check.due("B", desk.register(0), 2);
  }

  private static void runAbove2000() {
    check.sentence("Promise 13: above 2000 counts as 2000");
    int[][] rows = {{1999, 1999}, {2000, 2000}, {2001, 2000}, {4000, 2000}, {MOST, 2000}};
    for (int[] row : rows) {
      CartridgeDesk desk = counting();
      check.due("run(" + row[0] + ")", desk.run(row[0]), row[1]);
      check.due("B", desk.register(0), (row[1] + 1) / 2 % 256);
      check.due("PLACE", desk.register(Bench.PLACE), row[1] % 2 == 0 ? 64 : 65);
      check.due("and on", desk.run(1), 1);
    }
  }

  private static void runBelow0() {
    check.sentence("Promise 13: below 0 as 0");
    CartridgeDesk desk = counting();
    for (int n : new int[] {-1, -2, -2000, -2001, LEAST}) {
      check.due("run(" + n + ")", desk.run(n), 0);
    }
    check.due("B", desk.register(0), 0);
    check.due("PLACE", desk.register(Bench.PLACE), 64);
  }

  private static void runOfHalting() {
    check.sentence("Promise 13: those of a machine that halts count, too");
    CartridgeDesk desk = Bench.at64(1, 0);
    check.due("the 1 itself", desk.run(1), 1);
    check.due("run(0)", desk.run(0), 0);
    check.due("run(1)", desk.run(1), 1);
    check.due("run(2000)", desk.run(2000), 2000);
    check.due("run(2001)", desk.run(2001), 2000);
    check.due("it halts", desk.state(), 1);
    check.due("PLACE", desk.register(Bench.PLACE), 64);
  }

  private static void runToTheStop() {
    check.sentence("Promise 13: also the one that stops it");
    CartridgeDesk desk = Bench.at64(0, 0, 2, 0);
    check.due("before the 2", desk.run(2), 2);
    check.due("state", desk.state(), 0);
    check.due("the 2", desk.run(9), 1);
    check.due("state", desk.state(), 2);
    check.due("behind it", desk.run(9), 0);
    check.due("run(0)", desk.run(0), 0);
    CartridgeDesk once = Bench.at64(0, 0, 2, 0);
    check.due("all at once", once.run(2000), 3);
  }

  private static void runToTheLock() {
    check.sentence("Promise 13: or locks it");
    CartridgeDesk desk = Bench.at64(0, 0, 255, 0);
    check.due("before the 255", desk.run(2), 2);
    check.due("state", desk.state(), 0);
    check.due("the 255", desk.run(9), 1);
    check.due("state", desk.state(), 3);
    check.due("behind it", desk.run(9), 0);
    CartridgeDesk once = Bench.at64(0, 0, 255, 0);
    check.due("all at once", once.run(MOST), 3);
  }

  private static void runWithoutImage() {
    check.sentence("Promise 13: NoSuchElementException without an image");
    Twins none = new Twins(check, CartridgeDesk::new);
    for (int n : new int[] {-1, 0, 1, 2000, 2001, LEAST}) {
      none.none("run(" + n + ")", desk -> desk.run(n));
    }
  }

  private static void states() {
    check.sentence("Promise 14: 0 it goes on, 1 it halts, 2 it stopped, 3 it is locked");
    check.due("without an image", new CartridgeDesk().state(), 0);
    int[][] rows = {{0, 0}, {1, 1}, {2, 2}, {3, 0}, {11, 0}, {12, 3}, {15, 3}, {16, 0}, {255, 3}};
    for (int[] row : rows) {
      CartridgeDesk desk = Bench.at64(row[0]);
      check.due("before " + row[0], desk.state(), 0);
      desk.run(1);
      check.due("behind " + row[0], desk.state(), row[1]);
    }
  }

  private static void registerNumbers() {
    check.sentence("Promise 15: NoSuchElementException for another r");
    Twins twins = new Twins(check, EdgesOfMachineTest::busy);
    for (int r : new int[] {-1, 13, 14, 256, LEAST, MOST}) {
      twins.none("register(" + r + ")", desk -> desk.register(r));
    }
    CartridgeDesk desk = Bench.ran(7, 48, 255, 49, 1, 50, 2, 51, 3, 52, 4, 53, 5, 55, 254);
    int[] due = {255, 1, 2, 3, 4, 5, 204, 254, 240, 78, 0, 4, 0};
    for (int r = 0; r < due.length; r++) {
      check.due("register(" + r + ")", desk.register(r), due[r]);
    }
  }

  private static void registerFlags() {
    check.sentence("Promise 15: 10 the flags: 8 * Z + 4 * N + 2 * H + C");
    for (int flags = 0; flags < 16; flags++) {
      CartridgeDesk desk = Bench.ran(Bench.FLAG_STEPS, Bench.makeFlags(flags));
      check.due("flags", desk.register(10), flags);
    }
  }

  private static void registerSwitches() {
    check.sentence("Promise 15: 11 the switches: 16 * RAM on + 4 * LOW + 2 * HIGH + MODE");
    check.due("the least", new CartridgeDesk().register(11), 4);
    Marked marked = new Marked(8);
    int[][] rows = {{96, 1, 5}, {64, 1, 7}, {32, 2, 11}, {32, 3, 15}, {0, 10, 31}, {96, 0, 30},
      {64, 0, 28}, {32, 0, 20}, {0, 0, 4}};
    for (int[] row : rows) {
      marked.write(row[0], row[1]);
      check.due("writing " + row[1] + " at " + row[0], marked.switches(), row[2]);
    }
  }

  private static void registerEnabled() {
    check.sentence("Promise 15: 12 whether interrupts are ENABLED (1 or 0)");
    check.due("at first", new CartridgeDesk().register(12), 0);
    CartridgeDesk desk = Bench.ran(2, 4, 0, 3);
    check.due("ENABLED", desk.register(12), 1);
    desk.run(1);
    check.due("not ENABLED", desk.register(12), 0);
  }

  private static void registerAtL() {
    check.sentence("Promise 15: NoSuchElementException for 6 without an image");
    CartridgeDesk desk = new CartridgeDesk();
    check.none("register(6)", () -> desk.register(6));
    check.due("register(5)", desk.register(5), 0);
    check.due("register(7)", desk.register(7), 0);
    desk.section(0);
    check.none("with a section", () -> desk.register(6));
    desk.link(2);
    check.due("with an image", desk.register(6), 192);
    desk.clear();
    check.due("behind clear", desk.register(6), 192);
  }

  private static void peekAddresses() {
    check.sentence("Promise 16: an address (0 .. 255). NoSuchElementException when none such");
    CartridgeDesk desk = Bench.at64(0);
    desk.raise(1);
    check.due("peek(0)", desk.peek(0), 192);
    check.due("peek(255)", desk.peek(255), 2);
    Twins twins = new Twins(check, EdgesOfMachineTest::busy);
    for (int address : new int[] {-1, 256, 257, -256, LEAST, MOST}) {
      twins.none("peek(" + address + ")", wrong -> wrong.peek(address));
    }
  }

  private static void peekWithoutImage() {
    check.sentence("Promise 16: NoSuchElementException when there is no image");
    CartridgeDesk desk = new CartridgeDesk();
    for (int address : new int[] {0, 63, 64, 127, 128, 191, 192, 253, 254, 255, 256, -1}) {
      check.none("peek(" + address + ")", () -> desk.peek(address));
    }
    desk.section(0);
    desk.link(2);
    check.due("with an image", desk.peek(0), 192);
  }

  private static void peekChangesNothing() {
    check.sentence("Promise 16: What is read (looking changes nothing)");
    CartridgeDesk desk = Bench.at64(0, 0);
    desk.raise(0);
    for (int address = 0; address < 256; address++) {
      desk.peek(address);
    }
    check.due("PLACE", desk.register(Bench.PLACE), 64);
    check.due("switches", desk.register(Bench.SWITCHES), 4);
    check.due("lines", desk.peek(255), 1);
    check.due("STACK", desk.register(Bench.STACK), 240);
  }

  private static void sentCount() {
    check.sentence("Promise 17: How many bytes were sent");
    check.due("without an image", new CartridgeDesk().sent(), 0);
    CartridgeDesk desk = Bench.at64(11, 192, 64);
    check.due("none", desk.sent(), 0);
    desk.run(1);
    check.due("one", desk.sent(), 1);
    desk.run(2 * 98);
    check.due("99", desk.sent(), 99);
    desk.run(2);
    check.due("100", desk.sent(), 100);
    desk.run(2);
    check.due("101", desk.sent(), 101);
    desk.run(2000);
    check.due("1101", desk.sent(), 1101);
  }

  private static void sentSinceTheBeginning() {
    check.sentence("Promise 17: since the beginning");
    CartridgeDesk desk = Bench.at64(23, 11, 192, 64);
    desk.run(5);
    check.due("sent", desk.sent(), 2);
    desk.restart();
    check.due("behind restart", desk.sent(), 0);
    check.none("byteSent(0)", () -> desk.byteSent(0));
    desk.run(3);
    check.due("one again", desk.sent(), 1);
    desk.link(2);
    check.due("behind link", desk.sent(), 0);
    check.none("byteSent(0)", () -> desk.byteSent(0));
    desk.run(3);
    desk.clear();
    check.due("clear leaves it", desk.sent(), 1);
    check.due("byteSent(0)", desk.byteSent(0), 1);
  }

  private static void byteSentOfNone() {
    check.sentence("Promise 18: NoSuchElementException when there is none (nothing was sent)");
    CartridgeDesk desk = new CartridgeDesk();
    for (int k : new int[] {-1, 0, 1, 99, 100}) {
      check.none("byteSent(" + k + ") without an image", () -> desk.byteSent(k));
    }
    CartridgeDesk linked = Bench.at64(11);
    check.none("byteSent(0)", () -> linked.byteSent(0));
    linked.run(1);
    check.due("byteSent(0)", linked.byteSent(0), 0);
  }

  private static void byteSentLast() {
    check.sentence("Promise 18: The k-th byte that was sent");
    CartridgeDesk desk = Bench.ran(6, 55, 255, 11, 23, 11, 23, 11);
    check.due("sent", desk.sent(), 3);
    check.due("the first", desk.byteSent(0), 255);
    check.due("the second", desk.byteSent(1), 0);
    check.due("the last", desk.byteSent(2), 1);
    for (int k : new int[] {-1, 3, 4, 99, 100, LEAST, MOST}) {
      check.none("byteSent(" + k + ")", () -> desk.byteSent(k));
    }
  }

  private static void byteSentHundred() {
    check.sentence("Promise 18: the first 100 are kept");
    CartridgeDesk desk = Bench.at64(11, 23, 192, 64);
    desk.run(3 * 99);
    check.due("the 99th", desk.byteSent(98), 98);
    check.none("no 100th yet", () -> desk.byteSent(99));
    desk.run(3);
    check.due("the 100th", desk.byteSent(99), 99);
    check.none("no 101st yet", () -> desk.byteSent(100));
    desk.run(3);
    check.due("sent", desk.sent(), 101);
    check.none("a 101st is not kept", () -> desk.byteSent(100));
    check.due("the first stays", desk.byteSent(0), 0);
    check.due("the 100th stays", desk.byteSent(99), 99);
    desk.run(600);
    check.due("the first stays", desk.byteSent(0), 0);
    check.due("the 100th stays", desk.byteSent(99), 99);
    check.none("nor is a later one", () -> desk.byteSent(255));
  }
}
