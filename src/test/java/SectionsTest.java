/** Promises 1 to 5: a new object, section, bytes, mended, clear. */
public final class SectionsTest {
  private static final Check check = new Check("SectionsTest");

  private SectionsTest() {}

  public static void main(String[] args) {
    newObject();
    section();
    bytes();
    bytesAreFull();
    mended();
    mendedAtTheEdges();
    clear();
    check.end();
  }

  private static void newObject() {
    CartridgeDesk desk = new CartridgeDesk();
    check.state("bytes without a section", () -> desk.bytes(1, 1));
    check.state("mended without a section", () -> desk.mended(1, 0));
    check.none("link without a section", () -> desk.link(2));
    check.none("packed without a link", () -> desk.packed(0, 0));
    check.none("image without an image", () -> desk.image(0));
    check.none("valid without an image", desk::valid);
    check.none("run without an image", () -> desk.run(0));
    check.none("peek without an image", () -> desk.peek(192));
    check.none("register(6) without an image", () -> desk.register(6));
    check.none("spoil without an image", () -> spoiled(desk, 0));
    check.none("byteSent of nothing", () -> desk.byteSent(0));
    check.due("sent()", desk.sent(), 0);
    check.due("state()", desk.state(), 0);
    int[] first = {0, 0, 0, 0, 0, 0, NOT_ASKED, 0, 240, 0, 0, 4, 0};
    for (int r = 0; r < first.length; r++) {
      if (first[r] != NOT_ASKED) {
        check.due("register(" + r + ")", desk.register(r), first[r]);
      }
    }
  }

  private static final int NOT_ASKED = -2;

  private static int spoiled(CartridgeDesk desk, int k) {
    desk.spoil(k, 0);
    return 0;
  }

  private static void section() {
    CartridgeDesk desk = new CartridgeDesk();
    check.argument("section(-2)", () -> desk.section(-2));
    check.argument("section(8)", () -> desk.section(8));
    check.argument("section(least)", () -> desk.section(Integer.MIN_VALUE));
    check.argument("section(most)", () -> desk.section(Integer.MAX_VALUE));
    for (int k = 0; k < 10; k++) {
      int bank = k < 8 ? k : CartridgeDesk.NONE;
      check.due("section number", desk.section(bank), k);
    }
    check.state("an eleventh section", () -> desk.section(0));
    check.state("an eleventh section that floats", () -> desk.section(-1));
    check.argument("a wrong eleventh section", () -> desk.section(8));
  }

  private static void bytes() {
    CartridgeDesk desk = new CartridgeDesk();
    check.argument("bytes(1, 0) without a section", () -> desk.bytes(1, 0));
    desk.section(1);
    check.argument("bytes(1, 0)", () -> desk.bytes(1, 0));
    check.argument("bytes(1, 5)", () -> desk.bytes(1, 5));
    check.argument("bytes(1, -1)", () -> desk.bytes(1, -1));
    desk.bytes(0x01020304, 1);
    desk.bytes(0x05060708, 2);
    desk.bytes(0x090a0b0c, 3);
    desk.bytes(0x0d0e0f10, 4);
    desk.bytes(-1, 1);
    desk.bytes(0x80000000, 4);
    check.due("link(2)", desk.link(2), 15);
    int[] due = {4, 7, 8, 10, 11, 12, 13, 14, 15, 16, 255, 128, 0, 0, 0, 255};
    for (int k = 0; k < due.length; k++) {
      check.due("image(" + (64 + k) + ")", desk.image(64 + k), due[k]);
    }
  }

  private static void bytesAreFull() {
    CartridgeDesk desk = new CartridgeDesk();
    desk.section(1);
    for (int k = 0; k < 11; k++) {
      desk.bytes(0x01010101, 4);
    }
    desk.bytes(0x020202, 3);
    check.state("bytes beyond 48", () -> desk.bytes(3, 2));
    check.argument("wrong bytes beyond 48", () -> desk.bytes(3, 5));
    desk.bytes(4, 1);
    check.state("a 49th byte", () -> desk.bytes(5, 1));
    check.state("a 49th mended byte", () -> desk.mended(1, 0));
    check.argument("a wrong 49th mended byte", () -> desk.mended(0, 0));
    check.due("link of 48", desk.link(2), 48);
    check.due("the 48th", desk.image(64 + 47), 4);
    check.due("behind it", desk.image(64 + 48), 255);
    desk.section(1);
    desk.bytes(6, 1);
    check.due("a new section has room", desk.link(2), 49);
    check.due("its byte", desk.image(64 + 48), 6);
  }

  private static void mended() {
    CartridgeDesk desk = new CartridgeDesk();
    check.argument("mended(0, 0) without a section", () -> desk.mended(0, 0));
    desk.section(0);
    check.argument("mended(0, 0)", () -> desk.mended(0, 0));
    check.argument("mended(3, 0)", () -> desk.mended(3, 0));
    check.argument("mended(-1, 0)", () -> desk.mended(-1, 0));
    check.argument("mended(1, -1)", () -> desk.mended(1, -1));
    check.argument("mended(2, 10)", () -> desk.mended(2, 10));
    desk.mended(1, 1);
    desk.mended(2, 1);
    desk.mended(1, 0);
    desk.mended(2, 0);
    desk.mended(1, 9);
    check.none("link without section 9", () -> desk.link(8));
    Bench.addSection(desk, 3, 1, 2, 3);
    for (int k = 2; k < 10; k++) {
      desk.section(3);
    }
    check.due("link(8)", desk.link(8), 8);
    int[] due = {64, 3, 32, 0, 67};
    for (int k = 0; k < due.length; k++) {
      check.due("mended byte " + k, desk.image(32 + k), due[k]);
    }
  }

  private static void mendedAtTheEdges() {
    CartridgeDesk desk = new CartridgeDesk();
    desk.section(1);
    desk.mended(2, 1);
    check.none("the first byte lacks its section", () -> desk.link(2));
    for (int k = 0; k < 47; k++) {
      desk.mended(1, 0);
    }
    check.state("a 49th mended byte", () -> desk.mended(1, 0));
    desk.section(0);
    check.due("48 mended bytes", desk.link(2), 48);
    check.due("the first", desk.image(64), 0);
    check.due("the last", desk.image(64 + 47), 64);
    desk.clear();
    desk.section(0);
    desk.mended(1, 9);
    desk.clear();
    desk.section(0);
    check.due("a mended byte that is gone asks for none", desk.link(2), 0);
  }

  private static void clear() {
    CartridgeDesk desk = new CartridgeDesk();
    desk.clear();
    Bench.addSection(desk, 0, 7, 8);
    Bench.addSection(desk, 1, 9);
    desk.link(2);
    desk.run(1);
    desk.clear();
    check.due("the image stays", desk.image(33), 8);
    check.due("it stays valid", desk.valid(), 0);
    check.due("packed stays", desk.packed(1, 1), 64);
    check.due("the machine stays", desk.register(Bench.PLACE), 32);
    check.state("bytes behind clear", () -> desk.bytes(1, 1));
    check.none("link behind clear", () -> desk.link(2));
    check.due("and packed still stays", desk.packed(0, 1), 32);
    check.due("numbers begin anew", desk.section(0), 0);
    desk.bytes(5, 1);
    check.due("what was there is gone", desk.link(2), 1);
    check.due("the new byte", desk.image(32), 5);
    check.due("no old byte", desk.image(33), 255);
    check.none("packed of a section that is gone", () -> desk.packed(1, 0));
  }
}
