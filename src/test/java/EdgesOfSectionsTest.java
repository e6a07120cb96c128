/** Each sentence of promises 1 to 5, and of the terms they use, that names a boundary case. */
public final class EdgesOfSectionsTest {
  private static final Check check = new Check("EdgesOfSectionsTest");
  private static final int FLOAT = CartridgeDesk.NONE;
  private static final int LEAST = Integer.MIN_VALUE;
  private static final int MOST = Integer.MAX_VALUE;

  private EdgesOfSectionsTest() {}

  public static void main(String[] args) {
    noSectionsAtFirst();
    noImageAtFirst();
    pinnedToABank();
    floating();
    withoutBytes();
    tenSections();
    wrongBankComesFirst();
    howManyBytes();
    lowestBytesHighestFirst();
    bytesWithoutSection();
    fortyEightBytes();
    refusedBytesLeaveNone();
    endOfTheLastSection();
    kindOfMended();
    mendedOfSection();
    mendedWithoutSection();
    fortyEightMended();
    clearOfNothing();
    clearOfAll();
    clearLeavesImageAndPacked();
    check.end();
  }

  /** A desk with a section pinned to bank 1 that has so many bytes 1. */
  private static CartridgeDesk holding(int length) {
    CartridgeDesk desk = new CartridgeDesk();
    Bench.addFilled(desk, 1, length, 1);
    return desk;
  }

  private static void noSectionsAtFirst() {
    check.sentence("Promise 1: No sections");
    CartridgeDesk desk = new CartridgeDesk();
    for (int banks : new int[] {2, 4, 8}) {
      check.none("link(" + banks + ")", () -> desk.link(banks));
    }
    check.state("bytes", () -> desk.bytes(0, 1));
    check.state("mended", () -> desk.mended(1, 0));
    check.none("packed(0, 0)", () -> desk.packed(0, 0));
    check.none("packed(0, 1)", () -> desk.packed(0, 1));
    check.due("the first section", desk.section(0), 0);
  }

  private static void noImageAtFirst() {
    check.sentence("Promise 1: no image");
    CartridgeDesk desk = new CartridgeDesk();
    desk.section(0);
    desk.bytes(1, 1);
    check.none("image(0)", () -> desk.image(0));
    check.none("valid()", desk::valid);
    check.none("run(1)", () -> desk.run(1));
    check.none("peek(0)", () -> desk.peek(0));
    check.none("packed(0, 0)", () -> desk.packed(0, 0));
    desk.link(2);
    check.due("image(0)", desk.image(0), 192);
    check.due("valid()", desk.valid(), 0);
    check.due("packed(0, 0)", desk.packed(0, 0), 0);
  }

  private static void pinnedToABank() {
    check.sentence("Promise 2: pinned to a bank (0 .. 7) .. IllegalArgumentException when not");
    for (int bank = 0; bank < 8; bank++) {
      CartridgeDesk desk = new CartridgeDesk();
      check.due("section(" + bank + ")", desk.section(bank), 0);
      desk.link(8);
      check.due("its bank", desk.packed(0, 0), bank);
    }
    CartridgeDesk desk = new CartridgeDesk();
    for (int bank : new int[] {8, 9, 255, 256, MOST}) {
      check.argument("section(" + bank + ")", () -> desk.section(bank));
    }
    check.due("none was made", desk.section(7), 0);
  }

  private static void floating() {
    check.sentence("Promise 2: or floating (NONE) .. IllegalArgumentException when not");
    CartridgeDesk desk = new CartridgeDesk();
    for (int bank : new int[] {-2, -3, -8, -256, LEAST}) {
      check.argument("section(" + bank + ")", () -> desk.section(bank));
    }
    check.due("NONE", FLOAT, -1);
    check.due("section(NONE)", desk.section(FLOAT), 0);
    desk.bytes(9, 1);
    Bench.addFilled(desk, 0, 32, 1);
    desk.link(4);
    check.due("it floats out of a full bank", desk.packed(0, 0), 1);
  }

  private static void withoutBytes() {
    check.sentence("Promise 2: A section more, without bytes");
    CartridgeDesk desk = new CartridgeDesk();
    desk.section(1);
    check.due("link of one without bytes", desk.link(2), 0);
    check.due("its place", desk.image(64), 255);
    desk.bytes(5, 1);
    desk.clear();
    desk.section(1);
    check.due("nor has one in the place of an old one", desk.link(2), 0);
    check.due("its place", desk.image(64), 255);
  }

  private static void tenSections() {
    check.sentence("Promise 2: Answers its number .. IllegalStateException when there are ten");
    CartridgeDesk desk = new CartridgeDesk();
    for (int k = 0; k < 10; k++) {
      check.due("section", desk.section(k % 2 == 0 ? 1 : FLOAT), k);
    }
    check.state("an eleventh, pinned", () -> desk.section(0));
    check.state("an eleventh, floating", () -> desk.section(FLOAT));
    desk.bytes(9, 1);
    check.due("ten are linked", desk.link(2), 1);
    check.due("the tenth has the byte", desk.packed(9, 1), 32);
    check.none("there is no eleventh", () -> desk.packed(10, 0));
  }

  private static void wrongBankComesFirst() {
    check.sentence("Promise 2: IllegalArgumentException when bank is not as said; (then) ten");
    CartridgeDesk desk = new CartridgeDesk();
    for (int k = 0; k < 10; k++) {
      desk.section(0);
    }
    check.argument("section(8) of ten", () -> desk.section(8));
    check.argument("section(-2) of ten", () -> desk.section(-2));
    check.state("section(7) of ten", () -> desk.section(7));
    check.state("section(-1) of ten", () -> desk.section(-1));
  }

  private static void howManyBytes() {
    check.sentence("Promise 3: n is 1 .. 4 .. IllegalArgumentException when n is not as said");
    for (int n = 1; n <= 4; n++) {
      CartridgeDesk desk = holding(0);
      desk.bytes(-1, n);
      check.due("link", desk.link(2), n);
    }
    CartridgeDesk desk = holding(0);
    for (int n : new int[] {0, 5, -1, -4, 8, 256, LEAST, MOST}) {
      check.argument("bytes(1, " + n + ")", () -> desk.bytes(1, n));
    }
    check.due("none came", desk.link(2), 0);
  }

  private static void lowestBytesHighestFirst() {
    check.sentence("Promise 3: The lowest bytes of word, the highest of them first");
    CartridgeDesk desk = holding(0);
    desk.bytes(0xfffffe00, 1);
    desk.bytes(0x0000ff01, 1);
    desk.bytes(0x7f8000ff, 2);
    desk.bytes(0x80ff0001, 3);
    desk.bytes(0x80000001, 4);
    desk.bytes(MOST, 4);
    desk.bytes(0, 1);
    int[] due = {0, 1, 0, 255, 255, 0, 1, 128, 0, 0, 1, 127, 255, 255, 255, 0};
    check.due("link", desk.link(2), due.length);
    for (int k = 0; k < due.length; k++) {
      check.due("byte " + k, desk.image(64 + k), due[k]);
    }
  }

  private static void bytesWithoutSection() {
    check.sentence("Promise 3: IllegalStateException when there is no section");
    CartridgeDesk desk = new CartridgeDesk();
    check.state("bytes of a new object", () -> desk.bytes(1, 4));
    check.argument("but first n", () -> desk.bytes(1, 5));
    check.argument("but first n", () -> desk.bytes(1, 0));
    desk.section(1);
    desk.bytes(1, 4);
    check.due("link", desk.link(2), 4);
    desk.clear();
    check.state("bytes behind clear", () -> desk.bytes(1, 1));
  }

  private static void fortyEightBytes() {
    check.sentence("Promise 3: IllegalStateException when it would have more than 48");
    for (int n = 1; n <= 4; n++) {
      int size = n;
      CartridgeDesk fits = holding(48 - n);
      fits.bytes(-2, n);
      check.due("48 by " + n, fits.link(2), 48);
      check.due("the 48th", fits.image(64 + 47), 254);
      check.state("no more", () -> fits.bytes(0, 1));
      CartridgeDesk full = holding(49 - n);
      check.state("49 by " + n, () -> full.bytes(-2, size));
      check.due("it has what it had", full.link(2), 49 - n);
    }
    CartridgeDesk full = holding(48);
    check.argument("but first n", () -> full.bytes(0, 5));
    check.argument("but first n", () -> full.bytes(0, 0));
  }

  private static void refusedBytesLeaveNone() {
    check.sentence("Promise 3: bytes that would be more than 48 do not come, not even some");
    CartridgeDesk desk = holding(46);
    check.state("three more", () -> desk.bytes(0x070707, 3));
    check.state("four more", () -> desk.bytes(0x07070707, 4));
    check.due("link", desk.link(2), 46);
    check.due("the 47th", desk.image(64 + 46), 255);
    desk.bytes(0x0809, 2);
    check.due("but two come", desk.link(2), 48);
    check.due("the 47th", desk.image(64 + 46), 8);
    check.due("the 48th", desk.image(64 + 47), 9);
  }

  private static void endOfTheLastSection() {
    check.sentence("Promise 3: come to the end of the last section");
    CartridgeDesk desk = holding(48);
    desk.section(2);
    desk.bytes(0x0203, 2);
    desk.bytes(0x04, 1);
    check.due("link", desk.link(4), 51);
    check.due("the full one's end", desk.image(64 + 47), 1);
    check.due("behind it", desk.image(64 + 48), 255);
    for (int k = 0; k < 3; k++) {
      check.due("byte " + k + " of the last", desk.image(128 + k), 2 + k);
    }
    check.due("behind it", desk.image(131), 255);
  }

  private static void kindOfMended() {
    check.sentence("Promise 4: kind 1 or 2 .. Throws likewise");
    CartridgeDesk desk = holding(1);
    for (int kind : new int[] {0, 3, -1, 4, 257, LEAST, MOST}) {
      check.argument("mended(" + kind + ", 0)", () -> desk.mended(kind, 0));
    }
    check.due("none came", desk.link(2), 1);
    desk.mended(1, 0);
    desk.mended(2, 0);
    check.due("link", desk.link(2), 3);
    check.due("kind 1: the address", desk.image(65), 64);
    check.due("kind 2: the bank", desk.image(66), 1);
  }

  private static void mendedOfSection() {
    check.sentence("Promise 4: of section s (0 .. 9) .. Throws likewise");
    CartridgeDesk desk = holding(1);
    for (int s : new int[] {-1, 10, 11, 256, LEAST, MOST}) {
      check.argument("mended(1, " + s + ")", () -> desk.mended(1, s));
      check.argument("mended(2, " + s + ")", () -> desk.mended(2, s));
    }
    check.due("none came", desk.link(2), 1);
    for (int s = 0; s < 10; s++) {
      desk.mended(2, s);
    }
    check.none("nine are not there yet", () -> desk.link(8));
    for (int s = 1; s < 10; s++) {
      desk.section(s % 8);
    }
    check.due("link", desk.link(8), 11);
    int[] due = {1, 1, 2, 3, 4, 5, 6, 7, 0, 1};
    for (int s = 0; s < 10; s++) {
      check.due("bank of " + s, desk.image(65 + s), due[s]);
    }
  }

  private static void mendedWithoutSection() {
    check.sentence("Promise 4: Throws likewise (IllegalStateException when there is no section)");
    CartridgeDesk desk = new CartridgeDesk();
    check.state("mended of a new object", () -> desk.mended(2, 9));
    check.argument("but first the kind", () -> desk.mended(3, 0));
    check.argument("but first the section", () -> desk.mended(1, 10));
    desk.section(1);
    desk.mended(1, 0);
    check.due("link", desk.link(2), 1);
    desk.clear();
    check.state("mended behind clear", () -> desk.mended(1, 0));
  }

  private static void fortyEightMended() {
    check.sentence("Promise 4: Throws likewise (IllegalStateException when more than 48)");
    CartridgeDesk desk = holding(47);
    desk.mended(1, 0);
    check.due("48", desk.link(2), 48);
    check.due("the 48th", desk.image(64 + 47), 64);
    check.state("a 49th of kind 1", () -> desk.mended(1, 0));
    check.state("a 49th of kind 2", () -> desk.mended(2, 9));
    check.state("a 49th that is not mended", () -> desk.bytes(0, 1));
    check.argument("but first the kind", () -> desk.mended(0, 0));
    check.argument("but first the section", () -> desk.mended(1, -1));
    check.due("48 it stays, and asks for no section 9", desk.link(2), 48);
  }

  private static void clearOfNothing() {
    check.sentence("Promise 5: All sections go (there were none)");
    CartridgeDesk desk = new CartridgeDesk();
    desk.clear();
    desk.clear();
    check.none("link", () -> desk.link(2));
    check.none("image", () -> desk.image(0));
    check.due("the first section", desk.section(0), 0);
  }

  private static void clearOfAll() {
    check.sentence("Promise 5: All sections go (there were ten, and the last one was full)");
    CartridgeDesk desk = new CartridgeDesk();
    for (int k = 0; k < 9; k++) {
      desk.section(7);
    }
    Bench.addFilled(desk, 1, 48, 3);
    desk.clear();
    check.none("link", () -> desk.link(8));
    for (int k = 0; k < 10; k++) {
      check.due("section", desk.section(FLOAT), k);
    }
    check.state("an eleventh", () -> desk.section(FLOAT));
    desk.bytes(0x0102, 2);
    check.due("link", desk.link(2), 2);
    check.due("its byte", desk.image(33), 2);
    check.due("no old byte", desk.image(34), 255);
    check.due("no old bank", desk.packed(0, 0), 0);
  }

  private static void clearLeavesImageAndPacked() {
    check.sentence("Promise 5: the image, and what packed() tells, stay");
    CartridgeDesk desk = holding(48);
    desk.section(0);
    desk.mended(1, 0);
    desk.link(2);
    desk.spoil(127, 3);
    desk.run(1);
    desk.clear();
    for (int k = 0; k < 128; k++) {
      int due = k == 127 ? 3 : k == 32 ? 64 : k >= 64 + 48 || k > 32 && k < 64 ? 255 : 1;
      if (k >= 32) {
        check.due("image(" + k + ")", desk.image(k), due);
      }
    }
    check.due("valid()", desk.valid(), 3);
    check.due("packed(0, 0)", desk.packed(0, 0), 1);
    check.due("packed(0, 1)", desk.packed(0, 1), 64);
    check.due("packed(1, 1)", desk.packed(1, 1), 32);
    check.none("packed(2, 0)", () -> desk.packed(2, 0));
    desk.section(3);
    check.due("packed stays with a new section", desk.packed(0, 0), 1);
    check.due("also of the other", desk.packed(1, 0), 0);
    check.due("the machine runs on", desk.run(1), 1);
    check.due("in the image", desk.register(Bench.PLACE), 64);
  }
}
