/** The machine's addresses and switches, as registers 6 and 11 and peek tell them. */
public final class AddressesTest {
  private static final Check check = new Check("AddressesTest");

  private AddressesTest() {}

  public static void main(String[] args) {
    for (int banks : new int[] {2, 4, 8}) {
      for (int setting = 0; setting < 16; setting++) {
        banksSeen(banks, setting & 3, setting >> 2 & 1, setting >> 3);
      }
    }
    ramSwitch();
    switchEdges();
    ramByMode();
    ramIsOff();
    upperBytes();
    maskAndLines();
    linesWritten();
    imageStays();
    check.end();
  }

  private static void banksSeen(int banks, int low, int high, int mode) {
    Marked marked = new Marked(banks);
    marked.write(32, low);
    marked.write(64, high);
    marked.write(96, mode);
    int seenLow = low == 0 ? 1 : low;
    String what = banks + " banks, " + low + " " + high + " " + mode + ": ";
    check.due(what + "switches", marked.switches(), 4 * seenLow + 2 * high + mode);
    check.due(what + "peek(63)", marked.desk.peek(63), mode == 1 ? 4 * high % banks : 0);
    check.due(what + "peek(0)", marked.desk.peek(0), 100 + (mode == 1 ? 4 * high % banks : 0));
    check.due(what + "peek(64)", marked.desk.peek(64), 100 + (4 * high + seenLow) % banks);
    check.due(what + "peek(127)", marked.desk.peek(127), (4 * high + seenLow) % banks);
  }

  private static void ramSwitch() {
    Marked marked = new Marked(2);
    for (int value = 0; value < 32; value++) {
      int address = value % 2 == 0 ? 0 : 31;
      marked.write(address, value);
      int due = (value & 15) == 10 ? 20 : 4;
      check.due("RAM by " + value, marked.switches(), due);
    }
    marked.write(7, 250);
    check.due("RAM by 250", marked.switches(), 20);
  }

  private static void switchEdges() {
    int[][] due = {
      {0, 10, 20}, {31, 26, 20}, {32, 255, 12}, {63, 254, 8}, {32, 252, 4}, {64, 255, 6},
      {95, 3, 6}, {64, 254, 4}, {96, 255, 5}, {127, 1, 5}, {127, 254, 4}, {128, 255, 4}
    };
    for (int[] row : due) {
      Marked marked = new Marked(8);
      marked.write(row[0], row[1]);
      String call = "writing " + row[1] + " at " + row[0];
      check.due(call, marked.switches(), row[2]);
    }
  }

  private static void ramByMode() {
    Marked marked = new Marked(8);
    marked.write(0, 10);
    marked.write(128, 1);
    marked.write(191, 2);
    marked.write(64, 1);
    check.due("RAM 0 in MODE 0", marked.desk.peek(128), 1);
    marked.write(96, 1);
    check.due("RAM 1 in MODE 1", marked.desk.peek(128), 0);
    marked.write(128, 3);
    marked.write(191, 4);
    check.due("RAM 1", marked.desk.peek(128), 3);
    check.due("its end", marked.desk.peek(191), 4);
    marked.write(64, 0);
    check.due("RAM 0 in MODE 1", marked.desk.peek(128), 1);
    check.due("its end", marked.desk.peek(191), 2);
    check.due("192 is none of it", marked.desk.peek(192), 0);
  }

  private static void ramIsOff() {
    Marked marked = new Marked(2);
    marked.write(0, 10);
    marked.write(150, 77);
    check.due("on", marked.desk.peek(150), 77);
    marked.write(0, 0);
    check.due("off", marked.desk.peek(150), 255);
    marked.write(150, 5);
    check.due("L is there", marked.desk.register(5), 150);
    check.due("register(6)", marked.desk.register(6), 255);
    check.due("off", marked.desk.peek(150), 255);
    marked.write(0, 10);
    check.due("writing did nothing", marked.desk.peek(150), 77);
  }

  private static void upperBytes() {
    Marked marked = new Marked(2);
    for (int address = 192; address < 254; address++) {
      if (address % 20 == 0) {
        marked = new Marked(2);
      }
      marked.write(address, address ^ 85);
      check.due("peek(" + address + ")", marked.desk.peek(address), address ^ 85);
      check.due("register(6)", marked.desk.register(6), address ^ 85);
    }
    check.due("194 stays 0 in a new object", new Marked(2).desk.peek(194), 0);
  }

  private static void maskAndLines() {
    Marked marked = new Marked(2);
    marked.write(254, 255);
    check.due("lowest four bits", marked.desk.peek(254), 15);
    marked.write(254, 0x35);
    check.due("lowest four bits", marked.desk.peek(254), 5);
    check.due("no lines", marked.desk.peek(255), 0);
    marked.desk.raise(2);
    check.due("line 2", marked.desk.peek(255), 4);
    check.due("MASK", marked.desk.peek(254), 5);
  }

  private static void linesWritten() {
    Marked marked = new Marked(2);
    marked.desk.raise(3);
    marked.write(255, 0x35);
    check.due("lines as bits", marked.desk.peek(255), 5);
    marked.desk.raise(1);
    check.due("and one more", marked.desk.peek(255), 7);
    CartridgeDesk own = Bench.ran(5, 53, 254, 54, 4, 21, 4, 54, 4, 16, 2);
    check.due("a line that the program raises", own.register(Bench.PLACE), 72);
    own.run(1);
    check.due("interrupts it", own.register(Bench.PLACE), 24);
  }

  private static void imageStays() {
    Marked marked = new Marked(2);
    for (int address = 0; address < 128; address += 16) {
      int was = marked.desk.image(address);
      marked.write(address, 99);
      check.due("image(" + address + ")", marked.desk.image(address), was);
    }
  }
}
