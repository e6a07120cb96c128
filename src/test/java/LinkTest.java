/** Promises 6 to 8: link, packed, image. */
public final class LinkTest {
  private static final Check check = new Check("LinkTest");
  private static final int FLOAT = CartridgeDesk.NONE;

  private LinkTest() {}

  public static void main(String[] args) {
    wrongInputs();
    order();
    orderOfExceptions();
    pinnedRoom();
    floatingRoom();
    emptySections();
    failedLinkChangesNothing();
    linkBeginsAnew();
    packed();
    image();
    check.end();
  }

  /** Sections of so many bytes 1, by turns a bank and a length. */
  private static CartridgeDesk sections(int... banksAndLengths) {
    CartridgeDesk desk = new CartridgeDesk();
    for (int k = 0; k < banksAndLengths.length; k += 2) {
      desk.section(banksAndLengths[k]);
      for (int b = 0; b < banksAndLengths[k + 1]; b++) {
        desk.bytes(k / 2, 1);
      }
    }
    return desk;
  }

  /** By turns the bank and the address that are due. */
  private static void duePacked(String what, CartridgeDesk desk, int... due) {
    for (int k = 0; k < due.length; k++) {
      String call = what + ": packed(" + k / 2 + ", " + k % 2 + ")";
      check.due(call, desk.packed(k / 2, k % 2), due[k]);
    }
  }

  private static void wrongInputs() {
    CartridgeDesk desk = sections(0, 1);
    for (int banks : new int[] {-2, 0, 1, 3, 5, 6, 7, 9, 16, Integer.MIN_VALUE}) {
      check.argument("link(" + banks + ")", () -> desk.link(banks));
    }
    for (int banks : new int[] {2, 4, 8}) {
      check.due("link(" + banks + ")", desk.link(banks), 1);
      check.due("size code", desk.image(6), banks == 2 ? 0 : banks / 4);
    }
  }

  private static void order() {
    CartridgeDesk desk = sections(FLOAT, 5, FLOAT, 9, 0, 4, FLOAT, 9, 2, 3, 0, 2, 2, 1);
    check.due("link(4)", desk.link(4), 33);
    duePacked("order", desk, 0, 56, 0, 38, 0, 32, 0, 47, 2, 64, 0, 36, 2, 67);
    check.due("start", desk.image(1), 56);
    int[] due = {2, 2, 2, 2, 5, 5, 1};
    for (int k = 0; k < due.length; k++) {
      check.due("image(" + (32 + k) + ")", desk.image(32 + k), due[k]);
    }
    check.due("end of section 0", desk.image(60), 0);
    check.due("behind it", desk.image(61), 255);
    check.due("bank 1", desk.image(64), 255);
    check.due("bank 2", desk.image(128), 4);
    check.due("bank 2, section 6", desk.image(131), 6);
  }

  private static void orderOfExceptions() {
    CartridgeDesk none = new CartridgeDesk();
    check.argument("link(3) without sections", () -> none.link(3));
    CartridgeDesk both = sections(0, 33);
    both.mended(2, 4);
    check.none("a section lacks, and there is no room", () -> both.link(2));
    check.argument("link(0) of it", () -> both.link(0));
    CartridgeDesk later = sections(0, 1, 5, 1);
    later.mended(1, 2);
    check.none("a later section's byte lacks its section", () -> later.link(8));
    later.section(1);
    check.due("and then it has it", later.link(8), 3);
    check.due("mended", later.image(5 * 64 + 1), 64);
  }

  private static void pinnedRoom() {
    check.due("32 in bank 0", sections(0, 32).link(2), 32);
    check.state("33 in bank 0", () -> sections(0, 33).link(8));
    check.state("20 and 13 in bank 0", () -> sections(0, 20, 0, 13).link(8));
    check.due("64 in bank 1", sections(1, 40, 1, 24).link(2), 64);
    check.state("65 in bank 1", () -> sections(1, 40, 1, 25).link(2));
    check.state("bank 2 of 2", () -> sections(2, 1).link(2));
    check.due("bank 2 of 4", sections(2, 1).link(4), 1);
    check.state("bank 4 of 4", () -> sections(4, 1).link(4));
    check.due("bank 7 of 8", sections(7, 1).link(8), 1);
    check.state("an empty one in bank 7 of 4", () -> sections(0, 1, 7, 0).link(4));
    CartridgeDesk desk = sections(7, 48);
    desk.link(8);
    duePacked("bank 7", desk, 7, 64);
    check.due("start in bank 7", desk.image(1), 64);
    check.due("its last byte", desk.image(7 * 64 + 47), 0);
  }

  private static void floatingRoom() {
    CartridgeDesk desk = sections(FLOAT, 30, FLOAT, 33, FLOAT, 31, FLOAT, 1, FLOAT, 1);
    desk.link(2);
    duePacked("lowest with room", desk, 1, 97, 1, 64, 0, 32, 0, 63, 1, 127);
    CartridgeDesk torn = sections(FLOAT, 30, FLOAT, 33, FLOAT, 31, FLOAT, 2);
    check.state("two bytes left, in two banks", () -> torn.link(2));
    check.due("but there is room in more banks", torn.link(4), 96);
    duePacked("in bank 2", torn, 1, 97, 1, 64, 0, 32, 2, 64);
  }

  private static void emptySections() {
    CartridgeDesk desk = sections(FLOAT, 0, 3, 0, 0, 32, 3, 2);
    check.due("link(4)", desk.link(4), 34);
    duePacked("empty", desk, 0, 64, 3, 64, 0, 32, 3, 64);
    CartridgeDesk full = sections(1, 40, 1, 24, 1, 0);
    full.link(2);
    duePacked("behind a full bank", full, 1, 64, 1, 104, 1, 128);
  }

  private static void failedLinkChangesNothing() {
    CartridgeDesk desk = sections(1, 3);
    desk.link(2);
    desk.run(2);
    desk.raise(2);
    Bench.addSection(desk, 5, 1);
    check.state("link(2)", () -> desk.link(2));
    check.argument("link(1)", () -> desk.link(1));
    check.due("place stays", desk.register(Bench.PLACE), 65);
    check.due("lines stay", desk.peek(255), 4);
    check.due("image stays", desk.image(64), 0);
    check.due("valid stays", desk.valid(), 0);
    check.none("its size stays", () -> desk.image(128));
    check.none("packed stays", () -> desk.packed(1, 0));
    desk.mended(1, 7);
    check.none("link(8)", () -> desk.link(8));
    check.due("place stays", desk.register(Bench.PLACE), 65);
    check.due("packed of 0 stays", desk.packed(0, 1), 64);
  }

  private static void linkBeginsAnew() {
    CartridgeDesk desk = Bench.ran(4, 55, 10, 11, 53, 200, 119);
    desk.raise(1);
    check.due("sent", desk.sent(), 1);
    desk.spoil(64, 2);
    desk.link(8);
    check.due("link makes the bytes anew", desk.image(64), 55);
    check.due("place", desk.register(Bench.PLACE), 0);
    check.due("A", desk.register(Bench.A), 0);
    check.due("sent", desk.sent(), 0);
    check.due("200", desk.peek(200), 0);
    check.due("lines", desk.peek(255), 0);
    check.due("size", desk.image(511), 255);
    desk.link(2);
    check.none("a smaller image", () -> desk.image(128));
  }

  private static void packed() {
    CartridgeDesk desk = sections(4, 2, 4, 1);
    check.none("before a link", () -> desk.packed(0, 0));
    desk.link(8);
    duePacked("packed", desk, 4, 64, 4, 66);
    check.none("packed(2, 0)", () -> desk.packed(2, 0));
    check.none("packed(-1, 0)", () -> desk.packed(-1, 0));
    check.none("packed(10, 1)", () -> desk.packed(10, 1));
    check.none("packed(0, 2)", () -> desk.packed(0, 2));
    check.none("packed(0, -1)", () -> desk.packed(0, -1));
    desk.section(1);
    check.none("a section that is not linked", () -> desk.packed(2, 0));
    desk.link(8);
    duePacked("linked again", desk, 4, 64, 4, 66, 1, 64);
  }

  private static void image() {
    for (int banks : new int[] {2, 4, 8}) {
      CartridgeDesk desk = sections(0, 1);
      desk.link(banks);
      check.due("the last byte", desk.image(banks * 64 - 1), 255);
      check.none("behind the last", () -> desk.image(banks * 64));
      check.none("image(-1)", () -> desk.image(-1));
      check.none("image(most)", () -> desk.image(Integer.MAX_VALUE));
    }
  }
}
