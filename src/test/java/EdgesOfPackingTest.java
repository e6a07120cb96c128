/** Each sentence on banks, on packing, and of promises 6 and 7, that names a boundary case. */
public final class EdgesOfPackingTest {
  private static final Check check = new Check("EdgesOfPackingTest");
  private static final int FLOAT = CartridgeDesk.NONE;

  private EdgesOfPackingTest() {}

  public static void main(String[] args) {
    howManyBanks();
    headsRoom();
    addressesSeen();
    pinnedFirst();
    longestFirst();
    leastNumber();
    behindWhatIsThere();
    lowestBankWithRoom();
    roomInBank0();
    roomInOtherBanks();
    pinnedBankIsThere();
    floatingHasNoRoom();
    allIsFull();
    emptySections();
    otherBytes();
    bytesOfSections();
    noSection0();
    mendedOfMissing();
    mendedBytes();
    orderOfRefusals();
    refusedLinkLeavesAll();
    linkBegins();
    packedSection();
    packedWhat();
    packedAsLastLinked();
    check.end();
  }

  /** By turns a bank and a length; the bytes of section s are s. */
  private static CartridgeDesk made(int... banksAndLengths) {
    CartridgeDesk desk = new CartridgeDesk();
    for (int k = 0; k < banksAndLengths.length; k += 2) {
      Bench.addFilled(desk, banksAndLengths[k], banksAndLengths[k + 1], k / 2);
    }
    return desk;
  }

  /** By turns the bank and the address that are due. */
  private static void duePacked(CartridgeDesk desk, int... due) {
    for (int k = 0; k < due.length; k++) {
      String call = "packed(" + k / 2 + ", " + k % 2 + ")";
      check.due(call, desk.packed(k / 2, k % 2), due[k]);
    }
  }

  private static void howManyBanks() {
    check.sentence("Promise 6: IllegalArgumentException when banks is not 2, 4 or 8");
    CartridgeDesk desk = made(0, 1);
    int[] wrong = {1, 3, 5, 6, 7, 9, 0, -1, -2, -8, 16, 258, Integer.MIN_VALUE, Integer.MAX_VALUE};
    for (int banks : wrong) {
      check.argument("link(" + banks + ")", () -> desk.link(banks));
    }
    check.none("no image was made", () -> desk.image(0));
    for (int banks : new int[] {2, 4, 8}) {
      check.due("link(" + banks + ")", desk.link(banks), 1);
      check.due("the last byte", desk.image(banks * 64 - 1), 255);
      check.none("behind it", () -> desk.image(banks * 64));
    }
  }

  private static void headsRoom() {
    check.sentence("Terms: Bytes 0 .. 31 of bank 0 are the HEAD; the first of bank 0 at 32");
    CartridgeDesk desk = made(0, 1);
    Bench.addFilled(desk, 1, 1, 9);
    desk.link(2);
    duePacked(desk, 0, 32, 1, 64);
    check.due("the head's last byte", desk.image(31), 0);
    check.due("the first section's byte", desk.image(32), 0);
    check.due("bank 1 has no head", desk.image(64), 9);
  }

  private static void addressesSeen() {
    check.sentence("Terms: Bank 0 lies at 0 .. 63, others are seen at 64 .. 127; its ADDRESS");
    CartridgeDesk low = made(0, 31, 0, 1);
    low.link(2);
    duePacked(low, 0, 32, 0, 63);
    for (int bank = 1; bank < 8; bank++) {
      CartridgeDesk desk = made(bank, 48, bank, 15, bank, 1);
      desk.link(8);
      duePacked(desk, bank, 64, bank, 112, bank, 127);
      check.due("the bank's last byte", desk.image(bank * 64 + 63), 2);
    }
  }

  private static void pinnedFirst() {
    check.sentence("TO PACK: first the pinned sections, by numbers, then the floating ones");
    CartridgeDesk desk = made(FLOAT, 9, 0, 1, FLOAT, 8, 0, 3, 0, 2);
    desk.link(2);
    duePacked(desk, 0, 38, 0, 32, 0, 47, 0, 33, 0, 36);
    CartridgeDesk pushed = made(FLOAT, 32, 0, 1);
    pushed.link(2);
    duePacked(pushed, 1, 64, 0, 32);
  }

  private static void longestFirst() {
    check.sentence("TO PACK: the floating ones, the longest first");
    CartridgeDesk desk = made(FLOAT, 1, FLOAT, 3, FLOAT, 2, FLOAT, 4);
    desk.link(2);
    duePacked(desk, 0, 41, 0, 36, 0, 39, 0, 32);
    CartridgeDesk byOne = made(FLOAT, 47, FLOAT, 48);
    byOne.link(4);
    duePacked(byOne, 2, 64, 1, 64);
    CartridgeDesk none = made(FLOAT, 0, FLOAT, 1);
    none.link(2);
    duePacked(none, 0, 33, 0, 32);
  }

  private static void leastNumber() {
    check.sentence("TO PACK: of several the least number");
    CartridgeDesk desk = made(FLOAT, 2, FLOAT, 5, FLOAT, 2, FLOAT, 5, FLOAT, 2);
    desk.link(2);
    duePacked(desk, 0, 42, 0, 32, 0, 44, 0, 37, 0, 46);
    CartridgeDesk ten = made(FLOAT, 16, FLOAT, 16, FLOAT, 16, FLOAT, 16, FLOAT, 16, FLOAT, 16,
        FLOAT, 16, FLOAT, 16, FLOAT, 16, FLOAT, 16);
    ten.link(4);
    duePacked(ten, 0, 32, 0, 48, 1, 64, 1, 80, 1, 96, 1, 112, 2, 64, 2, 80, 2, 96, 2, 112);
  }

  private static void behindWhatIsThere() {
    check.sentence("TO PACK: each is put behind what is there in its bank");
    CartridgeDesk desk = made(1, 48, 0, 1, 1, 1, 3, 2, FLOAT, 31, 1, 15, FLOAT, 1);
    desk.link(4);
    duePacked(desk, 1, 64, 0, 32, 1, 112, 3, 64, 0, 33, 1, 113, 2, 64);
  }

  private static void lowestBankWithRoom() {
    check.sentence("TO PACK: a floating one: in the lowest bank in which there is room");
    CartridgeDesk desk = made(0, 20, 1, 40, FLOAT, 12);
    desk.link(4);
    duePacked(desk, 0, 32, 1, 64, 0, 52);
    CartridgeDesk byOne = made(0, 20, 1, 40, FLOAT, 13);
    byOne.link(4);
    duePacked(byOne, 0, 32, 1, 64, 1, 104);
    CartridgeDesk full = made(0, 20, 1, 40, FLOAT, 24);
    full.link(4);
    duePacked(full, 0, 32, 1, 64, 1, 104);
    CartridgeDesk over = made(0, 20, 1, 40, FLOAT, 25);
    over.link(4);
    duePacked(over, 0, 32, 1, 64, 2, 64);
    CartridgeDesk back = made(FLOAT, 33, FLOAT, 32, FLOAT, 31, FLOAT, 1);
    back.link(4);
    duePacked(back, 1, 64, 0, 32, 1, 97, 2, 64);
  }

  private static void roomInBank0() {
    check.sentence("Promise 6: IllegalStateException when a section has no room (bank 0)");
    check.due("32", made(0, 32).link(2), 32);
    check.state("33", () -> made(0, 33).link(2));
    check.state("33 of 8 banks", () -> made(0, 33).link(8));
    check.due("31 and 1", made(0, 31, 0, 1).link(2), 32);
    check.state("31 and 2", () -> made(0, 31, 0, 2).link(8));
    check.state("32 and 1", () -> made(0, 32, 0, 1).link(8));
  }

  private static void roomInOtherBanks() {
    check.sentence("Promise 6: IllegalStateException when a section has no room (other banks)");
    for (int bank = 1; bank < 8; bank++) {
      int pinned = bank;
      check.due("64 in " + bank, made(bank, 48, bank, 16).link(8), 64);
      check.state("65 in " + bank, () -> made(pinned, 48, pinned, 17).link(8));
      check.state("64 and 1 in " + bank, () -> made(pinned, 32, pinned, 32, pinned, 1).link(8));
    }
  }

  private static void pinnedBankIsThere() {
    check.sentence("Promise 6: a section has no room in a bank that the image has not");
    for (int banks : new int[] {2, 4, 8}) {
      check.due("the last of " + banks, made(banks - 1, 1).link(banks), 1);
      for (int bank = banks; bank < 8; bank++) {
        int pinned = bank;
        check.state("bank " + bank + " of " + banks, () -> made(pinned, 1).link(banks));
        check.state("an empty one there", () -> made(0, 1, pinned, 0).link(banks));
      }
    }
  }

  private static void floatingHasNoRoom() {
    check.sentence("Promise 6: IllegalStateException when a (floating) section has no room");
    check.due("the last bank's room", made(1, 16, FLOAT, 48).link(2), 64);
    check.state("is less by one", () -> made(1, 17, FLOAT, 48).link(2));
    check.due("but not in 4 banks", made(1, 17, FLOAT, 48).link(4), 65);
    check.due("bank 0's room", made(1, 48, 1, 16, FLOAT, 32).link(2), 96);
    check.state("is less by one", () -> made(1, 48, 1, 16, FLOAT, 33).link(2));
    CartridgeDesk seven = made(FLOAT, 48, FLOAT, 48, FLOAT, 48, FLOAT, 48, FLOAT, 48, FLOAT, 48,
        FLOAT, 48);
    check.due("seven of 48 in 8 banks", seven.link(8), 336);
    Bench.addFilled(seven, FLOAT, 33, 7);
    check.state("and one of 33", () -> seven.link(8));
    CartridgeDesk eight = made(FLOAT, 48, FLOAT, 48, FLOAT, 48, FLOAT, 48, FLOAT, 48, FLOAT, 48,
        FLOAT, 48, FLOAT, 32);
    check.due("and one of 32", eight.link(8), 368);
    check.state("three of 48 have no room in 2 banks", () -> eight.link(2));
    check.state("nor seven in 4", () -> eight.link(4));
  }

  private static void allIsFull() {
    check.sentence("Promise 6: an image that is full to its last byte; one more has no room");
    CartridgeDesk two = made(FLOAT, 32, FLOAT, 32, FLOAT, 32);
    check.due("96 in 2 banks", two.link(2), 96);
    check.due("the first byte behind the head", two.image(32), 0);
    check.due("the last byte", two.image(127), 2);
    two.section(FLOAT);
    two.bytes(9, 1);
    check.state("97 in 2 banks", () -> two.link(2));
    CartridgeDesk four = made(FLOAT, 32, FLOAT, 32, FLOAT, 32, FLOAT, 32, FLOAT, 32, FLOAT, 32,
        FLOAT, 32);
    check.due("224 in 4 banks", four.link(4), 224);
    check.due("the last byte", four.image(255), 6);
    four.section(FLOAT);
    four.bytes(9, 1);
    check.state("225 in 4 banks", () -> four.link(4));
    check.due("but there is room in 8", four.link(8), 225);
    duePacked(four, 0, 32, 1, 64, 1, 96, 2, 64, 2, 96, 3, 64, 3, 96, 4, 64);
  }

  private static void emptySections() {
    check.sentence("TO PACK: sections without bytes");
    CartridgeDesk desk = made(0, 0, 0, 0, 1, 0, FLOAT, 0);
    check.due("link", desk.link(2), 0);
    duePacked(desk, 0, 32, 0, 32, 1, 64, 0, 32);
    CartridgeDesk behind = made(FLOAT, 0, 0, 31, 1, 48, 1, 15, 1, 0);
    behind.link(2);
    duePacked(behind, 0, 63, 0, 32, 1, 64, 1, 112, 1, 127);
  }

  private static void otherBytes() {
    check.sentence("TO PACK: All other bytes are 255");
    for (int banks : new int[] {2, 4, 8}) {
      CartridgeDesk desk = made(0, 1, 1, 2);
      desk.link(banks);
      check.due("the last of section 0", desk.image(32), 0);
      for (int k = 33; k < 64; k++) {
        check.due("image(" + k + ")", desk.image(k), 255);
      }
      check.due("the last of section 1", desk.image(65), 1);
      for (int k = 66; k < banks * 64 && k < 400; k++) {
        check.due("image(" + k + ")", desk.image(k), 255);
      }
      check.due("the last byte", desk.image(banks * 64 - 1), 255);
    }
    CartridgeDesk again = made(1, 48);
    again.link(2);
    again.clear();
    again.section(1);
    again.link(2);
    check.due("no byte of the image before", again.image(64), 255);
    check.due("no byte of the image before", again.image(64 + 47), 255);
  }

  private static void bytesOfSections() {
    check.sentence("Promise 6: Answers how many bytes of sections there are");
    check.due("none", made(0, 0).link(2), 0);
    check.due("one", made(0, 1).link(2), 1);
    CartridgeDesk ten = made(1, 48, 2, 48, 3, 48, 4, 48, 5, 48, 6, 48, 7, 48, 0, 32, FLOAT, 16,
        FLOAT, 16);
    check.due("ten sections", ten.link(8), 400);
    CartridgeDesk mended = made(0, 3);
    mended.mended(1, 0);
    mended.mended(2, 0);
    check.due("mended ones count", mended.link(2), 5);
  }

  private static void noSection0() {
    check.sentence("Promise 6: NoSuchElementException when there is no section 0");
    CartridgeDesk desk = new CartridgeDesk();
    for (int banks : new int[] {2, 4, 8}) {
      check.none("link(" + banks + ")", () -> desk.link(banks));
    }
    desk.section(0);
    check.due("an empty one is enough", desk.link(2), 0);
    desk.clear();
    check.none("link behind clear", () -> desk.link(2));
    check.due("the image before stays", desk.image(1), 32);
  }

  private static void mendedOfMissing() {
    check.sentence("Promise 6: NoSuchElementException when a mended byte is of one not there");
    for (int kind = 1; kind <= 2; kind++) {
      CartridgeDesk desk = made(0, 1);
      desk.mended(kind, 0);
      check.due("of itself", desk.link(2), 2);
      desk.mended(kind, 1);
      check.none("of the next, that is not there", () -> desk.link(2));
      desk.section(1);
      check.due("and then is", desk.link(2), 3);
      desk.mended(kind, 2);
      check.none("in the last section", () -> desk.link(2));
      desk.section(FLOAT);
      check.due("and then is", desk.link(2), 4);
      for (int s = 3; s < 9; s++) {
        desk.section(1);
      }
      desk.mended(kind, 9);
      check.none("of section 9, of nine sections", () -> desk.link(2));
      desk.section(1);
      check.due("of section 9, of ten", desk.link(2), 5);
    }
    CartridgeDesk end = made(0, 1, 1, 47);
    end.mended(2, 2);
    check.none("the 48th byte of the last section", () -> end.link(2));
  }

  private static void mendedBytes() {
    check.sentence("Terms: the ADDRESS (kind 1) or the BANK (kind 2) of a section, when linked");
    CartridgeDesk desk = made(0, 0);
    int[] mended = {0, 1, 2, 3};
    for (int s : mended) {
      desk.mended(1, s);
      desk.mended(2, s);
    }
    Bench.addFilled(desk, 0, 23, 1);
    Bench.addFilled(desk, 0, 1, 2);
    Bench.addFilled(desk, FLOAT, 1, 3);
    desk.link(8);
    int[] due = {32, 0, 40, 0, 63, 0, 64, 1};
    for (int k = 0; k < due.length; k++) {
      check.due("image(" + (32 + k) + ")", desk.image(32 + k), due[k]);
    }
    CartridgeDesk far = made(7, 48, 7, 15, 7, 0);
    far.mended(1, 2);
    far.link(8);
    check.due("the greatest address", far.image(511), 127);
    far.clear();
    Bench.addFilled(far, 7, 48, 0);
    Bench.addFilled(far, 7, 15, 0);
    far.section(7);
    far.mended(2, 2);
    far.link(8);
    check.due("the greatest bank", far.image(511), 7);
  }

  private static void orderOfRefusals() {
    check.sentence("Promise 6: the first of IllegalArgument, NoSuchElement, IllegalState");
    CartridgeDesk none = new CartridgeDesk();
    check.argument("banks before section 0", () -> none.link(3));
    CartridgeDesk desk = made(0, 33);
    check.argument("banks before room", () -> desk.link(1));
    check.state("room", () -> desk.link(8));
    desk.mended(1, 1);
    check.argument("banks before a missing section", () -> desk.link(9));
    check.none("a missing section before room", () -> desk.link(8));
    CartridgeDesk bank = made(7, 1);
    bank.mended(1, 1);
    check.none("a missing section before a missing bank", () -> bank.link(2));
  }

  private static void refusedLinkLeavesAll() {
    check.sentence("Promise 6: the image before and the machine stay");
    Twins state = new Twins(check, EdgesOfPackingTest::runningWithoutRoom);
    state.state("link(2) without room", desk -> desk.link(2));
    state.state("link(4) without room", desk -> desk.link(4));
    state.argument("link(3)", desk -> desk.link(3));
    Twins missing = new Twins(check, EdgesOfPackingTest::runningWithoutSection);
    missing.none("link(8) without section 5", desk -> desk.link(8));
    Twins empty = new Twins(check, EdgesOfPackingTest::runningWithoutSections);
    empty.none("link(8) without sections", desk -> desk.link(8));
    CartridgeDesk desk = runningWithoutRoom();
    check.state("link(2)", () -> desk.link(2));
    check.due("the image's size", desk.image(255), 255);
    check.none("the image's size", () -> desk.image(256));
    check.due("PLACE", desk.register(Bench.PLACE), 42);
    check.due("sent", desk.sent(), 1);
    check.due("packed(0, 1)", desk.packed(0, 1), 32);
    check.none("packed(1, 0)", () -> desk.packed(1, 0));
  }

  /** RAM is on and has a byte, one byte is sent, line 1 is up, and a 4 waits for the next. */
  private static CartridgeDesk running() {
    CartridgeDesk desk = Bench.ready(4, 0, 55, 10, 53, 0, 119, 53, 150, 119, 11, 4, 0, 16, 2);
    desk.run(7);
    desk.raise(1);
    desk.spoil(200, 7);
    return desk;
  }

  private static CartridgeDesk runningWithoutRoom() {
    CartridgeDesk desk = running();
    Bench.addFilled(desk, 0, 20, 1);
    return desk;
  }

  private static CartridgeDesk runningWithoutSection() {
    CartridgeDesk desk = running();
    Bench.addFilled(desk, 1, 20, 1);
    desk.mended(1, 5);
    return desk;
  }

  private static CartridgeDesk runningWithoutSections() {
    CartridgeDesk desk = running();
    desk.clear();
    return desk;
  }

  private static void linkBegins() {
    check.sentence("Promise 6: the machine is at its beginning");
    CartridgeDesk desk = running();
    desk.link(2);
    int[] due = {0, 0, 0, 0, 0, 0, 192, 0, 240, 0, 0, 4, 0};
    for (int r = 0; r < due.length; r++) {
      check.due("register(" + r + ")", desk.register(r), due[r]);
    }
    check.due("lines", desk.peek(255), 0);
    check.due("sent", desk.sent(), 0);
    check.due("state", desk.state(), 0);
    desk.run(2);
    check.due("the 4 waits no more", desk.register(Bench.ENABLED), 0);
    desk.run(2);
    check.due("RAM is on again", desk.register(Bench.SWITCHES), 20);
    check.due("its byte is gone", desk.peek(150), 0);
    for (int end = 1; end < 4; end++) {
      CartridgeDesk ended = Bench.ran(1, end == 3 ? 12 : end);
      check.due("state", ended.state(), end);
      ended.link(2);
      check.due("state behind link", ended.state(), 0);
      check.due("it runs", ended.run(1), 1);
    }
  }

  private static void packedSection() {
    check.sentence("Promise 7: NoSuchElementException when there is none such");
    CartridgeDesk one = made(3, 1);
    check.none("before a link", () -> one.packed(0, 0));
    one.link(4);
    check.due("packed(0, 0)", one.packed(0, 0), 3);
    check.none("packed(1, 0)", () -> one.packed(1, 0));
    check.none("packed(-1, 0)", () -> one.packed(-1, 0));
    CartridgeDesk ten = made(1, 1, 1, 1, 1, 1, 1, 1, 1, 1, 1, 1, 1, 1, 1, 1, 1, 1, 1, 1);
    ten.link(2);
    check.due("packed(9, 1)", ten.packed(9, 1), 73);
    for (int s : new int[] {10, 11, 256, Integer.MAX_VALUE, Integer.MIN_VALUE}) {
      check.none("packed(" + s + ", 1)", () -> ten.packed(s, 1));
    }
  }

  private static void packedWhat() {
    check.sentence("Promise 7: its bank (what 0), its address (1) .. or for another what");
    CartridgeDesk desk = made(3, 1);
    desk.link(4);
    check.due("packed(0, 0)", desk.packed(0, 0), 3);
    check.due("packed(0, 1)", desk.packed(0, 1), 64);
    for (int what : new int[] {2, -1, 3, 256, Integer.MAX_VALUE, Integer.MIN_VALUE}) {
      check.none("packed(0, " + what + ")", () -> desk.packed(0, what));
    }
  }

  private static void packedAsLastLinked() {
    check.sentence("Promise 7: Of section s, as it was last linked");
    CartridgeDesk desk = made(FLOAT, 33);
    desk.link(2);
    duePacked(desk, 1, 64);
    Bench.addFilled(desk, 1, 48, 1);
    check.none("a section behind the link", () -> desk.packed(1, 0));
    check.state("a link that is refused", () -> desk.link(2));
    duePacked(desk, 1, 64);
    check.none("tells no more", () -> desk.packed(1, 0));
    desk.link(4);
    duePacked(desk, 2, 64, 1, 64);
    desk.clear();
    desk.section(0);
    duePacked(desk, 2, 64, 1, 64);
    desk.link(2);
    duePacked(desk, 0, 32);
    check.none("less sections", () -> desk.packed(1, 0));
  }
}
