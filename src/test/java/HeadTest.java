/** Promises 8 to 10: the head in image(), spoil and valid. */
public final class HeadTest {
  private static final Check check = new Check("HeadTest");

  private HeadTest() {}

  public static void main(String[] args) {
    for (int banks : new int[] {2, 4, 8}) {
      head(banks);
      everyByteCounts(banks);
    }
    spoil();
    valid();
    spoilGoesOn();
    check.end();
  }

  private static CartridgeDesk made(int banks) {
    CartridgeDesk desk = new CartridgeDesk();
    Bench.addSection(desk, 1, 0, 200, 3);
    desk.link(banks);
    return desk;
  }

  private static void head(int banks) {
    CartridgeDesk desk = made(banks);
    int code = banks == 2 ? 0 : banks == 4 ? 1 : 2;
    int headCheck = (0 - (206 + 237 + 102 + 204 + code) - 11) & 255;
    int[] due = {
      192, 64, 206, 237, 102, 204, code, 0, 0, 0, 0, 0, 0, headCheck, 0, 0,
      1, 10, 0, 0, 1, 10, 0, 0, 1, 10, 0, 0, 1, 10, 0, 0
    };
    int sum = 203 + 255 * (banks * 64 - 32 - 3);
    for (int k = 0; k < 32; k++) {
      sum += due[k];
    }
    due[14] = (sum / 256) % 256;
    due[15] = sum % 256;
    for (int k = 0; k < 32; k++) {
      check.due(banks + " banks: image(" + k + ")", desk.image(k), due[k]);
    }
    check.due("valid()", desk.valid(), 0);
  }

  private static void everyByteCounts(int banks) {
    CartridgeDesk desk = made(banks);
    for (int k = 0; k < banks * 64; k++) {
      // Four calls a byte: an object is good for 512 calls.
      if (k % 100 == 0) {
        desk = made(banks);
      }
      int was = desk.image(k);
      desk.spoil(k, was ^ 16);
      int due = k >= 2 && k <= 6 ? 1 : k >= 7 && k <= 13 ? 2 : 3;
      check.due("valid() with byte " + k + " spoiled", desk.valid(), due);
      desk.spoil(k, was);
    }
    check.due("valid() with all mended", desk.valid(), 0);
  }

  private static void spoil() {
    CartridgeDesk desk = made(4);
    desk.spoil(255, 300);
    check.due("lowest 8 bits", desk.image(255), 44);
    desk.spoil(0, -1);
    check.due("of a negative", desk.image(0), 255);
    desk.spoil(14, 256);
    check.due("of 256", desk.image(14), 0);
    check.none("spoil(-1)", () -> spoiled(desk, -1));
    check.none("spoil(256)", () -> spoiled(desk, 256));
    check.due("nothing else changed", desk.image(254), 255);
  }

  private static int spoiled(CartridgeDesk desk, int k) {
    desk.spoil(k, 0);
    return 0;
  }

  private static void valid() {
    CartridgeDesk desk = made(2);
    desk.spoil(127, 254);
    desk.spoil(126, 0);
    check.due("image check", desk.valid(), 3);
    desk.spoil(12, 1);
    check.due("head check before image check", desk.valid(), 2);
    desk.spoil(5, 0);
    check.due("marks before both", desk.valid(), 1);
    desk.spoil(5, 204);
    desk.spoil(12, 0);
    desk.spoil(126, 255);
    desk.spoil(127, 255);
    desk.spoil(6, 1);
    desk.spoil(13, desk.image(13) - 1);
    check.due("4 banks are not 2", desk.valid(), 1);
    desk.spoil(6, 0);
    check.due("head check of 4 banks", desk.valid(), 2);
    desk.spoil(13, desk.image(13) + 1);
    check.due("all is mended", desk.valid(), 0);
    CartridgeDesk evened = made(2);
    evened.spoil(100, 254);
    evened.spoil(65, 201);
    check.due("a sum that stays is right", evened.valid(), 0);
  }

  private static void spoilGoesOn() {
    CartridgeDesk desk = Bench.ran(1, 16, 16, 16);
    desk.spoil(65, 24);
    desk.run(1);
    check.due("the spoiled byte is obeyed", desk.register(0), 0);
    check.due("the machine went on", desk.register(Bench.PLACE), 66);
    check.due("and sees it", desk.peek(65), 24);
  }
}
