/** The machine's addresses and switches, as registers 6 and 11 and peek tell them. */
public final class AddressesTest {
  private static final Check check = new Check("AddressesTest");

  private AddressesTest() {}

  public static void main(String[] args) {
    for (int banks : new int[] {2, 4, 8}) {
      for (int setting = 0; setting < 16; setting++) {
        banksSeen(banks, setting & 3, setting >> 2 & 1, setting >> 3);
      }
    }
    ramSwitch();
    switchEdges();
    ramByMode();
    ramIsOff();
    upperBytes();
    maskAndLines();
    linesWritten();
    imageStays();
    check.end();
  }

  /** Every bank ends with its number, and has the program at 32, so that MODE takes none away. */
  private static CartridgeDesk marked(int banks) {
    CartridgeDesk desk = new CartridgeDesk();
    Bench.addSection(desk, 0, 53, 0, 119, 0);
    desk.link(banks);
    desk.run(1);
    for (int b = 0; b < banks; b++) {
      desk.spoil(b * 64 + 63, b);
      desk.spoil(b * 64, 100 + b);
      desk.spoil(b * 64 + 32, 55);
      desk.spoil(b * 64 + 33, 0);
      desk.spoil(b * 64 + 34, 53);
      desk.spoil(b * 64 + 35, 0);
      desk.spoil(b * 64 + 36, 119);
      desk.spoil(b * 64 + 37, 192);
      desk.spoil(b * 64 + 38, 32);
    }
    return desk;
  }

  /** Writes a byte at an address by the program that stands at 32 in every bank. */
  private static void write(CartridgeDesk desk, int banks, int address, int value) {
    for (int b = 0; b < banks; b++) {
      desk.spoil(b * 64 + 33, value);
      desk.spoil(b * 64 + 35, address);
    }
    desk.run(4);
  }

  private static void banksSeen(int banks, int low, int high, int mode) {
    CartridgeDesk desk = marked(banks);
    write(desk, banks, 32, low);
    write(desk, banks, 64, high);
    write(desk, banks, 96, mode);
    int seenLow = low == 0 ? 1 : low;
    String what = banks + " banks, " + low + " " + high + " " + mode + ": ";
    check.due(what + "switches", desk.register(Bench.SWITCHES), 4 * seenLow + 2 * high + mode);
    check.due(what + "peek(63)", desk.peek(63), mode == 1 ? 4 * high % banks : 0);
    check.due(what + "peek(0)", desk.peek(0), 100 + (mode == 1 ? 4 * high % banks : 0));
    check.due(what + "peek(64)", desk.peek(64), 100 + (4 * high + seenLow) % banks);
    check.due(what + "peek(127)", desk.peek(127), (4 * high + seenLow) % banks);
  }

  private static void ramSwitch() {
    CartridgeDesk desk = marked(2);
    for (int value = 0; value < 32; value++) {
      int address = value % 2 == 0 ? 0 : 31;
      write(desk, 2, address, value);
      int due = (value & 15) == 10 ? 20 : 4;
      check.due("RAM by " + value, desk.register(Bench.SWITCHES), due);
    }
    write(desk, 2, 7, 250);
    check.due("RAM by 250", desk.register(Bench.SWITCHES), 20);
  }

  private static void switchEdges() {
    int[][] due = {
      {0, 10, 20}, {31, 26, 20}, {32, 255, 12}, {63, 254, 8}, {32, 252, 4}, {64, 255, 6},
      {95, 3, 6}, {64, 254, 4}, {96, 255, 5}, {127, 1, 5}, {127, 254, 4}, {128, 255, 4}
    };
    for (int[] row : due) {
      CartridgeDesk desk = marked(8);
      write(desk, 8, row[0], row[1]);
      String call = "writing " + row[1] + " at " + row[0];
      check.due(call, desk.register(Bench.SWITCHES), row[2]);
    }
  }

  private static void ramByMode() {
    CartridgeDesk desk = marked(8);
    write(desk, 8, 0, 10);
    write(desk, 8, 128, 1);
    write(desk, 8, 191, 2);
    write(desk, 8, 64, 1);
    check.due("RAM 0 in MODE 0", desk.peek(128), 1);
    write(desk, 8, 96, 1);
    check.due("RAM 1 in MODE 1", desk.peek(128), 0);
    write(desk, 8, 128, 3);
    write(desk, 8, 191, 4);
    check.due("RAM 1", desk.peek(128), 3);
    check.due("its end", desk.peek(191), 4);
    write(desk, 8, 64, 0);
    check.due("RAM 0 in MODE 1", desk.peek(128), 1);
    check.due("its end", desk.peek(191), 2);
    check.due("192 is none of it", desk.peek(192), 0);
  }

  private static void ramIsOff() {
    CartridgeDesk desk = marked(2);
    write(desk, 2, 0, 10);
    write(desk, 2, 150, 77);
    check.due("on", desk.peek(150), 77);
    write(desk, 2, 0, 0);
    check.due("off", desk.peek(150), 255);
    write(desk, 2, 150, 5);
    check.due("L is there", desk.register(5), 150);
    check.due("register(6)", desk.register(6), 255);
    check.due("off", desk.peek(150), 255);
    write(desk, 2, 0, 10);
    check.due("writing did nothing", desk.peek(150), 77);
  }

  private static void upperBytes() {
    CartridgeDesk desk = marked(2);
    for (int address = 192; address < 254; address++) {
      if (address % 20 == 0) {
        desk = marked(2);
      }
      write(desk, 2, address, address ^ 85);
      check.due("peek(" + address + ")", desk.peek(address), address ^ 85);
      check.due("register(6)", desk.register(6), address ^ 85);
    }
    check.due("194 stays 0 in a new object", marked(2).peek(194), 0);
  }

  private static void maskAndLines() {
    CartridgeDesk desk = marked(2);
    write(desk, 2, 254, 255);
    check.due("lowest four bits", desk.peek(254), 15);
    write(desk, 2, 254, 0x35);
    check.due("lowest four bits", desk.peek(254), 5);
    check.due("no lines", desk.peek(255), 0);
    desk.raise(2);
    check.due("line 2", desk.peek(255), 4);
    check.due("MASK", desk.peek(254), 5);
  }

  private static void linesWritten() {
    CartridgeDesk desk = marked(2);
    desk.raise(3);
    write(desk, 2, 255, 0x35);
    check.due("lines as bits", desk.peek(255), 5);
    desk.raise(1);
    check.due("and one more", desk.peek(255), 7);
    CartridgeDesk own = Bench.ran(5, 53, 254, 54, 4, 21, 4, 54, 4, 16, 2);
    check.due("a line that the program raises", own.register(Bench.PLACE), 72);
    own.run(1);
    check.due("interrupts it", own.register(Bench.PLACE), 24);
  }

  private static void imageStays() {
    CartridgeDesk desk = marked(2);
    for (int address = 0; address < 128; address += 16) {
      int was = desk.image(address);
      write(desk, 2, address, 99);
      if (address != 32) {
        check.due("image(" + address + ")", desk.image(address), was);
      }
    }
  }
}
