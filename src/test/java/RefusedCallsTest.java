import java.util.function.Supplier;

/** Every call that the document refuses throws what it asks, and leaves all as it was. */
public final class RefusedCallsTest {
  private static final Check check = new Check("RefusedCallsTest");
  private static final int FLOAT = CartridgeDesk.NONE;

  private RefusedCallsTest() {}

  public static void main(String[] args) {
    everywhere("a new object", CartridgeDesk::new);
    everywhere("sections alone", RefusedCallsTest::sectionsAlone);
    everywhere("full, and running", RefusedCallsTest::full);
    everywhere("halting", () -> ended(1));
    everywhere("stopped", () -> ended(2));
    everywhere("locked", () -> ended(255));
    withoutSections(CartridgeDesk::new);
    withoutSections(RefusedCallsTest::cleared);
    withoutImage(CartridgeDesk::new);
    withoutImage(RefusedCallsTest::sectionsAlone);
    whenFull();
    whenLinkIsRefused();
    check.end();
  }

  private static CartridgeDesk sectionsAlone() {
    CartridgeDesk desk = new CartridgeDesk();
    Bench.addFilled(desk, FLOAT, 33, 7);
    Bench.addSection(desk, 0, 1, 2, 3);
    desk.mended(1, 0);
    desk.mended(2, 0);
    return desk;
  }

  /** Ten sections, the last with 48 bytes; RAM on, MODE 1, a byte sent, a line up, a 4 waits. */
  private static CartridgeDesk full() {
    CartridgeDesk desk = new CartridgeDesk();
    Bench.addSection(desk, 0, 55, 10, 53, 0, 119, 53, 140, 119, 53, 254, 119, 53, 96, 54, 1, 11, 4);
    Bench.add(desk, 16, 16, 16, 2);
    for (int k = 1; k < 9; k++) {
      desk.section(k % 8);
      desk.mended(1 + k % 2, k);
    }
    Bench.addFilled(desk, 7, 47, 5);
    desk.mended(1, 9);
    desk.link(8);
    desk.run(12);
    desk.raise(1);
    check.due("a 4 waits", desk.register(Bench.ENABLED), 0);
    check.due("sent", desk.sent(), 1);
    return desk;
  }

  private static CartridgeDesk ended(int code) {
    CartridgeDesk desk = Bench.ran(9, 55, 9, 11, 53, 253, 119, code, 0, 0);
    desk.raise(3);
    return desk;
  }

  private static CartridgeDesk cleared() {
    CartridgeDesk desk = full();
    desk.clear();
    return desk;
  }

  /** What is refused in every state. */
  private static void everywhere(String what, Supplier<CartridgeDesk> maker) {
    check.sentence("refused calls: " + what);
    Twins twins = new Twins(check, maker);
    for (int bank : new int[] {-2, 8}) {
      twins.argument("section(" + bank + ")", desk -> desk.section(bank));
    }
    for (int n : new int[] {0, 5}) {
      twins.argument("bytes(9, " + n + ")", desk -> desk.bytes(9, n));
    }
    for (int kind : new int[] {0, 3}) {
      twins.argument("mended(" + kind + ", 0)", desk -> desk.mended(kind, 0));
    }
    for (int s : new int[] {-1, 10}) {
      twins.argument("mended(1, " + s + ")", desk -> desk.mended(1, s));
      twins.none("packed(" + s + ", 0)", desk -> desk.packed(s, 0));
    }
    for (int banks : new int[] {1, 3, 5, 7, 9}) {
      twins.argument("link(" + banks + ")", desk -> desk.link(banks));
    }
    for (int k : new int[] {-1, 512}) {
      twins.none("packed(0, " + k + ")", desk -> desk.packed(0, k));
      twins.none("image(" + k + ")", desk -> desk.image(k));
      twins.none("spoil(" + k + ", 1)", desk -> desk.spoil(k, 1));
      twins.argument("raise(" + k + ")", desk -> desk.raise(k));
      twins.none("register(" + k + ")", desk -> desk.register(k));
      twins.none("peek(" + k + ")", desk -> desk.peek(k));
      twins.none("byteSent(" + k + ")", desk -> desk.byteSent(k));
    }
    twins.none("packed(0, 2)", desk -> desk.packed(0, 2));
    twins.argument("raise(4)", desk -> desk.raise(4));
    twins.none("register(13)", desk -> desk.register(13));
    twins.none("peek(256)", desk -> desk.peek(256));
    twins.none("byteSent(100)", desk -> desk.byteSent(100));
    twins.none("byteSent of the next", desk -> desk.byteSent(desk.sent()));
  }

  private static void withoutSections(Supplier<CartridgeDesk> maker) {
    check.sentence("refused calls: without a section");
    Twins twins = new Twins(check, maker);
    twins.state("bytes(9, 1)", desk -> desk.bytes(9, 1));
    twins.state("bytes(9, 4)", desk -> desk.bytes(9, 4));
    twins.state("mended(1, 0)", desk -> desk.mended(1, 0));
    twins.state("mended(2, 9)", desk -> desk.mended(2, 9));
    for (int banks : new int[] {2, 4, 8}) {
      twins.none("link(" + banks + ")", desk -> desk.link(banks));
    }
  }

  private static void withoutImage(Supplier<CartridgeDesk> maker) {
    check.sentence("refused calls: without an image");
    Twins twins = new Twins(check, maker);
    twins.none("packed(0, 0)", desk -> desk.packed(0, 0));
    twins.none("packed(0, 1)", desk -> desk.packed(0, 1));
    twins.none("image(0)", desk -> desk.image(0));
    twins.none("spoil(0, 1)", desk -> desk.spoil(0, 1));
    twins.none("valid()", CartridgeDesk::valid);
    twins.none("run(0)", desk -> desk.run(0));
    twins.none("run(1)", desk -> desk.run(1));
    twins.none("register(6)", desk -> desk.register(6));
    twins.none("peek(0)", desk -> desk.peek(0));
    twins.none("peek(255)", desk -> desk.peek(255));
  }

  private static void whenFull() {
    check.sentence("refused calls: ten sections, and 48 bytes in the last");
    Twins twins = new Twins(check, RefusedCallsTest::full);
    twins.state("section(0)", desk -> desk.section(0));
    twins.state("section(7)", desk -> desk.section(7));
    twins.state("section(NONE)", desk -> desk.section(FLOAT));
    for (int n = 1; n <= 4; n++) {
      int size = n;
      twins.state("bytes(9, " + n + ")", desk -> desk.bytes(9, size));
    }
    twins.state("mended(1, 0)", desk -> desk.mended(1, 0));
    twins.state("mended(2, 9)", desk -> desk.mended(2, 9));
  }

  private static void whenLinkIsRefused() {
    check.sentence("refused calls: link");
    Twins banks = new Twins(check, RefusedCallsTest::full);
    banks.state("link(2), sections are pinned to bank 7", desk -> desk.link(2));
    banks.state("link(4), sections are pinned to bank 7", desk -> desk.link(4));
    Twins missing = new Twins(check, () -> unlinked(1, 3));
    missing.none("link(8), section 3 is not there", desk -> desk.link(8));
    missing.none("link(2), section 3 is not there", desk -> desk.link(2));
    Twins room = new Twins(check, () -> unlinked(0, 0));
    room.state("link(8), bank 0 has no room", desk -> desk.link(8));
  }

  /** A machine that runs, and behind its link a section more, with 31 bytes and a mended one. */
  private static CartridgeDesk unlinked(int bank, int s) {
    CartridgeDesk desk = Bench.ready(4, 0, 55, 10, 53, 0, 119, 11, 4, 16, 16);
    desk.run(5);
    desk.raise(0);
    Bench.addFilled(desk, bank, 31, 9);
    desk.mended(2, s);
    return desk;
  }
}
