/** Each sentence on the addresses, from the first to the last, and on what writing does there. */
public final class EdgesOfAddressesTest {
  private static final Check check = new Check("EdgesOfAddressesTest");
  private static final int[] SIZES = {2, 4, 8};
  private static final int FIRST_SWITCHES = 4;
  private static final int RAM_ON = 16;

  private EdgesOfAddressesTest() {}

  public static void main(String[] args) {
    bank0();
    bankByHigh();
    bankByHighAndLow();
    moduloInTwoBanks();
    moduloInFourBanks();
    modeChangesOnlyLowAddresses();
    ramFirstAndLast();
    ramByMode();
    ramOffIsRead();
    ramOffIsWritten();
    plainBytes();
    mask();
    lines();
    writeRamSwitch();
    writeRamValues();
    writeLow();
    writeLowValues();
    writeHigh();
    writeHighValues();
    writeMode();
    writeModeValues();
    writingLeavesTheImage();
    writingElsewhereTurnsNothing();
    check.end();
  }

  /** The banks that are seen at 0 .. 63 and at 64 .. 127, each looked at first and last. */
  private static void dueBanks(String what, Marked marked, int lower, int upper) {
    check.due(what + ": peek(0)", marked.desk.peek(0), 100 + lower);
    check.due(what + ": peek(63)", marked.desk.peek(63), lower);
    check.due(what + ": peek(64)", marked.desk.peek(64), 100 + upper);
    check.due(what + ": peek(127)", marked.desk.peek(127), upper);
  }

  private static void bank0() {
    check.sentence("ADDRESSES 0 .. 63: bank 0 (MODE 0)");
    for (int banks : SIZES) {
      Marked marked = new Marked(banks);
      dueBanks(banks + " banks", marked, 0, 1);
      marked.write(64, 1);
      check.due("HIGH 1, MODE 0: peek(0)", marked.desk.peek(0), 100);
      check.due("HIGH 1, MODE 0: peek(63)", marked.desk.peek(63), 0);
    }
  }

  private static void bankByHigh() {
    check.sentence("ADDRESSES 0 .. 63: or, in MODE 1, bank 4 * HIGH");
    Marked marked = new Marked(8);
    marked.write(96, 1);
    dueBanks("MODE 1, HIGH 0", marked, 0, 1);
    marked.write(64, 1);
    dueBanks("MODE 1, HIGH 1", marked, 4, 5);
    marked.write(96, 0);
    dueBanks("MODE 0, HIGH 1", marked, 0, 5);
  }

  private static void bankByHighAndLow() {
    check.sentence("64 .. 127: bank 4 * HIGH + LOW");
    Marked marked = new Marked(8);
    for (int high = 0; high < 2; high++) {
      marked.write(64, high);
      for (int low = 1; low < 4; low++) {
        marked.write(32, low);
        dueBanks("HIGH " + high + ", LOW " + low, marked, 0, 4 * high + low);
      }
    }
  }

  private static void moduloInTwoBanks() {
    check.sentence("both modulo the number of banks (2)");
    Marked marked = new Marked(2);
    int[] due = {0, 1, 0, 1};
    for (int high = 0; high < 2; high++) {
      marked.write(64, high);
      for (int low = 1; low < 4; low++) {
        marked.write(32, low);
        dueBanks("HIGH " + high + ", LOW " + low, marked, 0, due[low]);
      }
    }
    marked.write(96, 1);
    dueBanks("MODE 1: bank 4", marked, 0, 1);
  }

  private static void moduloInFourBanks() {
    check.sentence("both modulo the number of banks (4)");
    Marked marked = new Marked(4);
    for (int high = 0; high < 2; high++) {
      marked.write(64, high);
      for (int low = 1; low < 4; low++) {
        marked.write(32, low);
        dueBanks("HIGH " + high + ", LOW " + low, marked, 0, low);
      }
    }
    marked.write(96, 1);
    dueBanks("MODE 1: bank 4", marked, 0, 3);
  }

  private static void modeChangesOnlyLowAddresses() {
    check.sentence("64 .. 127: bank 4 * HIGH + LOW (in both MODES)");
    Marked marked = new Marked(8);
    marked.write(32, 3);
    marked.write(64, 1);
    check.due("MODE 0: peek(64)", marked.desk.peek(64), 107);
    marked.write(96, 1);
    check.due("MODE 1: peek(64)", marked.desk.peek(64), 107);
    check.due("MODE 1: peek(127)", marked.desk.peek(127), 7);
    check.due("MODE 1: peek(63)", marked.desk.peek(63), 4);
  }

  private static void ramFirstAndLast() {
    check.sentence("128 .. 191: 64 bytes of RAM 0");
    Marked marked = new Marked(2);
    marked.write(0, 10);
    for (int k = 0; k < 64; k++) {
      check.due("RAM is 0 at first", marked.desk.peek(128 + k), 0);
    }
    marked.write(128, 11);
    marked.write(129, 12);
    marked.write(190, 13);
    marked.write(191, 14);
    check.due("peek(127)", marked.desk.peek(127), 1);
    check.due("peek(128)", marked.desk.peek(128), 11);
    check.due("peek(129)", marked.desk.peek(129), 12);
    check.due("peek(130)", marked.desk.peek(130), 0);
    check.due("peek(190)", marked.desk.peek(190), 13);
    check.due("peek(191)", marked.desk.peek(191), 14);
    check.due("peek(192)", marked.desk.peek(192), 0);
    check.due("switches", marked.switches(), RAM_ON + FIRST_SWITCHES);
  }

  private static void ramByMode() {
    check.sentence("RAM 0, in MODE 1 of RAM HIGH");
    for (int banks : SIZES) {
      Marked marked = new Marked(banks);
      marked.write(0, 10);
      marked.write(64, 1);
      marked.write(128, 21);
      marked.write(191, 22);
      marked.write(96, 1);
      check.due("RAM 1 is another", marked.desk.peek(128), 0);
      check.due("RAM 1 is another", marked.desk.peek(191), 0);
      marked.write(128, 31);
      marked.write(191, 32);
      marked.write(64, 0);
      check.due("MODE 1, HIGH 0: RAM 0", marked.desk.peek(128), 21);
      check.due("MODE 1, HIGH 0: RAM 0", marked.desk.peek(191), 22);
      marked.write(64, 1);
      check.due("MODE 1, HIGH 1: RAM 1", marked.desk.peek(128), 31);
      check.due("MODE 1, HIGH 1: RAM 1", marked.desk.peek(191), 32);
      marked.write(96, 0);
      check.due("MODE 0, HIGH 1: RAM 0", marked.desk.peek(128), 21);
      check.due("MODE 0, HIGH 1: RAM 0", marked.desk.peek(191), 22);
    }
  }

  private static void ramOffIsRead() {
    check.sentence("when RAM is off, 255 is read there");
    Marked marked = new Marked(2);
    for (int address = 128; address < 192; address++) {
      check.due("peek(" + address + ")", marked.desk.peek(address), 255);
    }
    check.due("192 is not RAM", marked.desk.peek(192), 0);
    check.due("127 is not RAM", marked.desk.peek(127), 1);
    marked.write(0, 10);
    check.due("on: peek(128)", marked.desk.peek(128), 0);
    check.due("on: peek(191)", marked.desk.peek(191), 0);
    marked.write(0, 11);
    check.due("off: peek(128)", marked.desk.peek(128), 255);
    check.due("off: peek(191)", marked.desk.peek(191), 255);
    marked.write(191, 3);
    check.due("off: register(6)", marked.desk.register(6), 255);
    CartridgeDesk taken = Bench.ran(2, 53, 128, 70, 2);
    check.due("an instruction reads it so", taken.register(0), 255);
  }

  private static void ramOffIsWritten() {
    check.sentence("when RAM is off, writing does nothing");
    Marked marked = new Marked(2);
    marked.write(128, 7);
    marked.write(191, 8);
    marked.write(0, 10);
    check.due("peek(128)", marked.desk.peek(128), 0);
    check.due("peek(191)", marked.desk.peek(191), 0);
    marked.write(128, 9);
    marked.write(191, 10);
    marked.write(31, 0);
    marked.write(128, 11);
    marked.write(191, 12);
    marked.write(31, 10);
    check.due("what was there stays", marked.desk.peek(128), 9);
    check.due("what was there stays", marked.desk.peek(191), 10);
  }

  private static void plainBytes() {
    check.sentence("192 .. 253: bytes");
    Marked marked = new Marked(2);
    int[] at = {192, 193, 252, 253};
    for (int address : at) {
      check.due("at first", marked.desk.peek(address), 0);
      marked.write(address, address);
      check.due("peek(" + address + ")", marked.desk.peek(address), address);
      marked.write(address, 255);
      check.due("all eight bits", marked.desk.peek(address), 255);
      marked.write(address, address);
    }
    for (int address : at) {
      check.due("each is its own", marked.desk.peek(address), address);
    }
    check.due("194", marked.desk.peek(194), 0);
    check.due("251", marked.desk.peek(251), 0);
    check.due("254 is not one", marked.desk.peek(254), 0);
    check.due("255 is not one", marked.desk.peek(255), 0);
    marked.write(0, 10);
    check.due("191 is not one", marked.desk.peek(191), 0);
  }

  private static void mask() {
    check.sentence("254: MASK (lowest four bits)");
    int[][] rows = {{0, 0}, {1, 1}, {14, 14}, {15, 15}, {16, 0}, {17, 1}, {240, 0}, {255, 15}};
    Marked marked = new Marked(2);
    check.due("at first", marked.desk.peek(254), 0);
    for (int[] row : rows) {
      marked.write(254, row[0]);
      check.due("MASK by " + row[0], marked.desk.peek(254), row[1]);
      check.due("253 stays", marked.desk.peek(253), 0);
      check.due("255 stays", marked.desk.peek(255), 0);
    }
  }

  private static void lines() {
    check.sentence("255: the lines that are up, as bits");
    Marked marked = new Marked(2);
    int[] due = {1, 3, 7, 15};
    check.due("none is up", marked.desk.peek(255), 0);
    for (int k = 0; k < 4; k++) {
      marked.desk.raise(k);
      check.due("up to line " + k, marked.desk.peek(255), due[k]);
    }
    check.due("MASK is its own", marked.desk.peek(254), 0);
    for (int k = 0; k < 4; k++) {
      Marked one = new Marked(2);
      one.desk.raise(k);
      check.due("line " + k + " alone", one.desk.peek(255), 1 << k);
    }
    marked.write(255, 0);
    check.due("written: none", marked.desk.peek(255), 0);
    marked.write(255, 255);
    check.due("written: four there are", marked.desk.peek(255), 15);
    marked.write(255, 16);
    check.due("written: there is no fifth", marked.desk.peek(255), 0);
  }

  /** Writing a byte at an address in a new machine leaves the switches so. */
  private static void dueSwitches(int address, int value, int due) {
    Marked marked = new Marked(8);
    marked.write(address, value);
    check.due("writing " + value + " at " + address, marked.switches(), due);
  }

  private static void writeRamSwitch() {
    check.sentence("To WRITE at 0 .. 31: RAM is on");
    for (int address : new int[] {0, 1, 30, 31}) {
      dueSwitches(address, 10, RAM_ON + FIRST_SWITCHES);
    }
    dueSwitches(32, 10, 8);
    dueSwitches(255, 10, FIRST_SWITCHES);
  }

  private static void writeRamValues() {
    check.sentence("RAM is on, if the lowest four bits are 10, else off");
    Marked marked = new Marked(2);
    int[] on = {10, 26, 122, 250};
    int[] off = {9, 11, 0, 8, 2, 14, 15, 25, 27, 160, 245, 249, 251, 255};
    for (int k = 0; k < off.length; k++) {
      marked.write(0, on[k % on.length]);
      check.due("on by " + on[k % on.length], marked.switches(), RAM_ON + FIRST_SWITCHES);
      marked.write(31, off[k]);
      check.due("off by " + off[k], marked.switches(), FIRST_SWITCHES);
      marked.write(31, off[k]);
      check.due("and again", marked.switches(), FIRST_SWITCHES);
    }
  }

  private static void writeLow() {
    check.sentence("at 32 .. 63: LOW is the lowest two bits");
    for (int address : new int[] {32, 33, 62, 63}) {
      dueSwitches(address, 3, 12);
    }
    dueSwitches(31, 3, FIRST_SWITCHES);
    dueSwitches(64, 2, FIRST_SWITCHES);
  }

  private static void writeLowValues() {
    check.sentence("LOW is the lowest two bits, but 1 for 0");
    Marked marked = new Marked(8);
    int[][] rows = {
      {3, 3}, {0, 1}, {1, 1}, {2, 2}, {4, 1}, {3, 3}, {4, 1}, {5, 1}, {6, 2}, {7, 3}, {8, 1},
      {252, 1}, {253, 1}, {254, 2}, {255, 3}
    };
    for (int[] row : rows) {
      marked.write(32, row[0]);
      check.due("LOW by " + row[0], marked.switches(), 4 * row[1]);
    }
  }

  private static void writeHigh() {
    check.sentence("at 64 .. 95: HIGH is the lowest bit");
    for (int address : new int[] {64, 65, 94, 95}) {
      dueSwitches(address, 1, FIRST_SWITCHES + 2);
    }
    dueSwitches(63, 1, FIRST_SWITCHES);
    dueSwitches(96, 1, FIRST_SWITCHES + 1);
  }

  private static void writeHighValues() {
    check.sentence("HIGH is the lowest bit (of all values)");
    Marked marked = new Marked(8);
    for (int value : new int[] {1, 0, 3, 2, 255, 254, 129, 128}) {
      marked.write(64, value);
      check.due("HIGH by " + value, marked.switches(), FIRST_SWITCHES + 2 * (value % 2));
    }
  }

  private static void writeMode() {
    check.sentence("at 96 .. 127: MODE is the lowest bit");
    for (int address : new int[] {96, 97, 126, 127}) {
      dueSwitches(address, 1, FIRST_SWITCHES + 1);
    }
    dueSwitches(95, 1, FIRST_SWITCHES + 2);
    dueSwitches(128, 1, FIRST_SWITCHES);
  }

  private static void writeModeValues() {
    check.sentence("MODE is the lowest bit (of all values)");
    Marked marked = new Marked(8);
    for (int value : new int[] {1, 0, 3, 2, 255, 254, 129, 128}) {
      marked.write(127, value);
      check.due("MODE by " + value, marked.switches(), FIRST_SWITCHES + value % 2);
    }
  }

  private static void writingLeavesTheImage() {
    check.sentence("banks that are switched by writing where nothing can be written");
    for (int address : new int[] {0, 31, 32, 63, 64, 95, 96, 127}) {
      Marked marked = new Marked(2);
      marked.write(address, 200);
      check.due("peek(0)", marked.desk.peek(0), 100);
      check.due("peek(63)", marked.desk.peek(63), 0);
      check.due("image(31)", marked.desk.image(31), 0);
      check.due("image(32)", marked.desk.image(32), 53);
      check.due("image(64)", marked.desk.image(64), 101);
      check.due("image(95)", marked.desk.image(95), 255);
      check.due("image(96)", marked.desk.image(96), 255);
      check.due("image(127)", marked.desk.image(127), 1);
    }
  }

  private static void writingElsewhereTurnsNothing() {
    check.sentence("To WRITE at 0 .. 127 turns the switches (and nowhere else)");
    for (int address : new int[] {128, 159, 160, 191, 192, 253, 254, 255}) {
      for (int value : new int[] {0, 10, 255}) {
        dueSwitches(address, value, FIRST_SWITCHES);
      }
    }
  }
}
