/** Each sentence on the head and its checks, and of promises 8 to 10, that names an edge. */
public final class EdgesOfImageTest {
  private static final Check check = new Check("EdgesOfImageTest");
  private static final int[] SIZES = {2, 4, 8};
  private static final int LEAST = Integer.MIN_VALUE;
  private static final int MOST = Integer.MAX_VALUE;

  private EdgesOfImageTest() {}

  public static void main(String[] args) {
    bytesOfTheHead();
    addressOfSection0();
    codeOfTheSize();
    headCheckMade();
    headCheckWraps();
    headChecksFirstAndLastByte();
    imageCheckWraps();
    imageChecksHigherByte();
    imageCheckLeavesItselfOut();
    imageCheckOfASmallerImage();
    imageByte();
    imageWithoutOne();
    spoilByte();
    spoilLowest8Bits();
    spoilMakesNoCheck();
    spoilAndTheMachine();
    spoilRefused();
    validBytes2To6();
    validHeadCheck();
    validImageCheck();
    validFirstOfThese();
    validWithoutImage();
    check.end();
  }

  private static CartridgeDesk made(int banks) {
    CartridgeDesk desk = new CartridgeDesk();
    Bench.addSection(desk, 1, 0, 200, 3);
    desk.link(banks);
    return desk;
  }

  private static void spoilImageCheck(CartridgeDesk desk, int sum) {
    desk.spoil(14, sum / 256);
    desk.spoil(15, sum % 256);
  }

  private static int told(CartridgeDesk desk) {
    return desk.image(14) * 256 + desk.image(15);
  }

  private static void bytesOfTheHead() {
    check.sentence("THE HEAD: 0: 192 .. 2 .. 5: 206, 237, 102, 204 .. 7 .. 12: 0 .. 16 .. 31");
    int[] due = {
      192, -1, 206, 237, 102, 204, -1, 0, 0, 0, 0, 0, 0, -1, -1, -1,
      1, 10, 0, 0, 1, 10, 0, 0, 1, 10, 0, 0, 1, 10, 0, 0
    };
    for (int banks : SIZES) {
      CartridgeDesk desk = made(banks);
      for (int k = 0; k < 32; k++) {
        if (due[k] >= 0) {
          check.due("image(" + k + ")", desk.image(k), due[k]);
        }
      }
      check.due("behind the head", desk.image(32), 255);
    }
  }

  private static void addressOfSection0() {
    check.sentence("THE HEAD: 1: the address of section 0");
    CartridgeDesk low = new CartridgeDesk();
    low.section(0);
    low.link(2);
    check.due("the least", low.image(1), 32);
    CartridgeDesk last = new CartridgeDesk();
    last.section(CartridgeDesk.NONE);
    last.bytes(7, 1);
    Bench.addFilled(last, 0, 31, 1);
    last.link(2);
    check.due("the last of bank 0", last.image(1), 63);
    Bench.addFilled(last, 0, 1, 1);
    last.link(2);
    check.due("the first of bank 1", last.image(1), 64);
    CartridgeDesk high = new CartridgeDesk();
    high.section(CartridgeDesk.NONE);
    high.bytes(7, 1);
    Bench.addFilled(high, 0, 32, 1);
    Bench.addFilled(high, 1, 48, 1);
    Bench.addFilled(high, 1, 15, 1);
    high.link(2);
    check.due("the last of bank 1", high.image(1), 127);
  }

  private static void codeOfTheSize() {
    check.sentence("THE HEAD: 6: 0, 1 or 2 for 2, 4 or 8 banks");
    for (int code = 0; code < 3; code++) {
      check.due(SIZES[code] + " banks", made(SIZES[code]).image(6), code);
    }
  }

  private static void headCheckMade() {
    check.sentence("THE HEAD: 13 the HEAD CHECK (its lowest 8 bits)");
    // 206 + 237 + 102 + 204 = 749, and 11 for eleven bytes: -760 is 8 of lowest 8 bits.
    check.due("2 banks", made(2).image(13), 8);
    check.due("4 banks", made(4).image(13), 7);
    check.due("8 banks", made(8).image(13), 6);
  }

  private static void headCheckWraps() {
    check.sentence("THE HEAD: for each of the bytes .. less the byte, less 1 (its lowest 8 bits)");
    int[][] rows = {{0, 8}, {7, 1}, {8, 0}, {9, 255}, {10, 254}, {255, 9}};
    for (int[] row : rows) {
      CartridgeDesk desk = made(2);
      desk.spoil(7, row[0]);
      if (row[0] != 0) {
        check.due("8 is not right with " + row[0], desk.valid(), 2);
      }
      desk.spoil(13, row[1]);
      check.due("the head check of " + row[0], desk.valid() == 2 ? 2 : 0, 0);
      desk.spoil(13, row[1] + 1);
      check.due("one more", desk.valid(), 2);
      desk.spoil(13, row[1] - 1);
      check.due("one less", desk.valid(), 2);
    }
  }

  private static void headChecksFirstAndLastByte() {
    check.sentence("THE HEAD: for each of the bytes 2 .. 12");
    for (int k = 7; k <= 12; k++) {
      CartridgeDesk desk = made(2);
      desk.spoil(k, 1);
      check.due("byte " + k + " is in the head check", desk.valid(), 2);
      desk.spoil(13, 7);
      check.due("and by 7 it is right, and the sum is as it was", desk.valid(), 0);
    }
    for (int k : new int[] {0, 1, 14, 15, 16, 31, 32}) {
      CartridgeDesk desk = made(2);
      desk.spoil(k, desk.image(k) + 1);
      check.due("byte " + k + " is not", desk.valid(), 3);
    }
  }

  /** Eight banks; 227 bytes are 0, one is as told, and all others sum up to 65535 less 218. */
  private static CartridgeDesk summing(int first) {
    CartridgeDesk desk = new CartridgeDesk();
    desk.section(1);
    desk.bytes(first, 1);
    for (int k = 0; k < 47; k++) {
      desk.bytes(0, 1);
    }
    int[][] rest = {{1, 16}, {2, 48}, {2, 16}, {3, 48}, {3, 16}, {4, 36}};
    for (int[] row : rest) {
      Bench.addFilled(desk, row[0], row[1], 0);
    }
    desk.link(8);
    return desk;
  }

  private static void imageCheckWraps() {
    check.sentence("THE HEAD: the image check the sum of all bytes (its lowest 16 bits)");
    int[][] rows = {{217, 255, 254}, {218, 255, 255}, {219, 0, 0}, {220, 0, 1}};
    for (int[] row : rows) {
      CartridgeDesk desk = summing(row[0]);
      check.due("14 with " + row[0], desk.image(14), row[1]);
      check.due("15 with " + row[0], desk.image(15), row[2]);
      check.due("valid()", desk.valid(), 0);
    }
    CartridgeDesk over = summing(218);
    over.spoil(64, 219);
    check.due("65535 is not 65536", over.valid(), 3);
    spoilImageCheck(over, 0);
    check.due("65536 is 0", over.valid(), 0);
    over.spoil(64, 218);
    check.due("0 is not 65535", over.valid(), 3);
  }

  private static void imageChecksHigherByte() {
    check.sentence("THE HEAD: the higher byte at 14");
    int[][] rows = {{57, 95, 254}, {58, 95, 255}, {59, 96, 0}};
    for (int[] row : rows) {
      CartridgeDesk desk = new CartridgeDesk();
      Bench.addSection(desk, 1, row[0], 0, 0, 0);
      desk.link(2);
      check.due("14 with " + row[0], desk.image(14), row[1]);
      check.due("15 with " + row[0], desk.image(15), row[2]);
    }
    CartridgeDesk desk = made(2);
    int high = desk.image(14);
    desk.spoil(14, desk.image(15));
    desk.spoil(15, high);
    check.due("the two exchanged", desk.valid(), 3);
  }

  private static void imageCheckLeavesItselfOut() {
    check.sentence("THE HEAD: all bytes of the image but 14 and 15");
    CartridgeDesk desk = made(4);
    int sum = told(desk);
    for (int k : new int[] {0, 1, 16, 31, 32, 64, 254, 255}) {
      int was = desk.image(k);
      desk.spoil(k, was ^ 1);
      check.due("byte " + k + " is in it", desk.valid(), 3);
      spoilImageCheck(desk, sum + (was % 2 == 0 ? 1 : -1));
      check.due("by as much", desk.valid(), 0);
      desk.spoil(k, was);
      spoilImageCheck(desk, sum);
    }
    desk.spoil(13, 8);
    desk.spoil(7, 255);
    spoilImageCheck(desk, sum + 255 + 1);
    check.due("the head check is in it", desk.valid(), 0);
  }

  private static void imageCheckOfASmallerImage() {
    check.sentence("THE HEAD: the sum of all bytes of the image (and of no others)");
    CartridgeDesk desk = made(8);
    desk.spoil(128, 7);
    desk.spoil(511, 7);
    desk.link(2);
    // The head's 1057 less its checks, 203 of the section, 93 times 255.
    check.due("the sum", told(desk), 1057 + 203 + 93 * 255);
    check.due("valid()", desk.valid(), 0);
  }

  private static void imageByte() {
    check.sentence("Promise 8: Byte k of the image .. NoSuchElementException when there is none");
    for (int banks : SIZES) {
      CartridgeDesk desk = made(banks);
      check.due("the first", desk.image(0), 192);
      check.due("the last", desk.image(banks * 64 - 1), 255);
      for (int k : new int[] {-1, -64, LEAST, banks * 64, 512, 513, MOST}) {
        check.none("image(" + k + ") of " + banks, () -> desk.image(k));
      }
    }
    CartridgeDesk smaller = made(8);
    smaller.link(2);
    check.due("the last", smaller.image(127), 255);
    check.none("image(128) of a smaller image", () -> smaller.image(128));
  }

  private static void imageWithoutOne() {
    check.sentence("Promise 8: NoSuchElementException when there is none (no image)");
    CartridgeDesk desk = new CartridgeDesk();
    for (int k : new int[] {-1, 0, 32, 127, 511, 512}) {
      check.none("image(" + k + ")", () -> desk.image(k));
    }
  }

  private static void spoilByte() {
    check.sentence("Promise 9: Byte k of the image becomes b");
    for (int banks : SIZES) {
      CartridgeDesk desk = made(banks);
      desk.spoil(0, 5);
      desk.spoil(banks * 64 - 1, 6);
      check.due("the first", desk.image(0), 5);
      check.due("the second stays", desk.image(1), 64);
      check.due("the last", desk.image(banks * 64 - 1), 6);
      check.due("the one before stays", desk.image(banks * 64 - 2), 255);
      desk.link(banks);
      check.due("link makes it anew", desk.image(0), 192);
      check.due("link makes it anew", desk.image(banks * 64 - 1), 255);
    }
  }

  private static void spoilLowest8Bits() {
    check.sentence("Promise 9: b (its lowest 8 bits)");
    int[][] rows = {
      {0, 0}, {1, 1}, {255, 255}, {256, 0}, {257, 1}, {511, 255}, {512, 0}, {-1, 255}, {-255, 1},
      {-256, 0}, {-257, 255}, {LEAST, 0}, {MOST, 255}
    };
    CartridgeDesk desk = made(2);
    for (int[] row : rows) {
      desk.spoil(100, row[0]);
      check.due("spoil(100, " + row[0] + ")", desk.image(100), row[1]);
    }
    check.due("its neighbour stays", desk.image(101), 255);
    check.due("its neighbour stays", desk.image(99), 255);
  }

  private static void spoilMakesNoCheck() {
    check.sentence("Promise 9: the checks are not made anew");
    CartridgeDesk desk = made(2);
    int sum = told(desk);
    desk.spoil(12, 77);
    desk.spoil(100, 78);
    check.due("the head check", desk.image(13), 8);
    check.due("the image check", told(desk), sum);
    desk.spoil(13, 1);
    check.due("the image check", told(desk), sum);
  }

  private static void spoilAndTheMachine() {
    check.sentence("Promise 9: the machine goes on");
    CartridgeDesk desk = Bench.ran(3, 55, 9, 11, 4, 0, 1, 0);
    desk.raise(2);
    desk.spoil(68, 23);
    check.due("PLACE", desk.register(Bench.PLACE), 68);
    check.due("A", desk.register(Bench.A), 9);
    check.due("sent", desk.sent(), 1);
    check.due("lines", desk.peek(255), 4);
    desk.run(1);
    check.due("the new byte is obeyed", desk.register(Bench.A), 10);
    check.due("the 4 is not forgotten", desk.register(Bench.ENABLED), 1);
    desk.run(1);
    check.due("it halts", desk.state(), 1);
    desk.spoil(69, 0);
    check.due("and does so behind spoil", desk.state(), 1);
    check.due("also when it runs", desk.run(3), 3);
    check.due("PLACE", desk.register(Bench.PLACE), 69);
  }

  private static void spoilRefused() {
    check.sentence("Promise 9: NoSuchElementException when there is none");
    for (int banks : SIZES) {
      Twins twins = new Twins(check, () -> made(banks));
      for (int k : new int[] {-1, LEAST, banks * 64, 512, MOST}) {
        twins.none("spoil(" + k + ", 0) of " + banks, desk -> desk.spoil(k, 0));
      }
    }
    Twins none = new Twins(check, CartridgeDesk::new);
    none.none("spoil(0, 0) without an image", desk -> desk.spoil(0, 0));
    none.none("spoil(511, 0) without an image", desk -> desk.spoil(511, 0));
    CartridgeDesk smaller = made(8);
    smaller.link(4);
    smaller.spoil(255, 1);
    check.refused("spoil(256, 1) of a smaller image", () -> smaller.spoil(256, 1),
        java.util.NoSuchElementException.class);
  }

  private static void validBytes2To6() {
    check.sentence("Promise 10: 1 its bytes 2 .. 6 are not as they must be");
    for (int code = 0; code < 3; code++) {
      CartridgeDesk desk = made(SIZES[code]);
      for (int k = 1; k <= 7; k++) {
        int was = desk.image(k);
        int due = k == 1 ? 3 : k == 7 ? 2 : 1;
        desk.spoil(k, was + 1);
        check.due("byte " + k + " one more", desk.valid(), due);
        desk.spoil(k, was - 1);
        check.due("byte " + k + " one less", desk.valid(), due);
        desk.spoil(k, was + 256);
        check.due("byte " + k + " as it was", desk.valid(), 0);
      }
      for (int other = 0; other < 4; other++) {
        desk.spoil(6, other);
        desk.spoil(13, 8 - other);
        check.due("6 is " + other, desk.valid() == 1 ? 1 : 0, other == code ? 0 : 1);
      }
    }
  }

  private static void validHeadCheck() {
    check.sentence("Promise 10: 2 the head check is not");
    CartridgeDesk desk = made(2);
    for (int b : new int[] {0, 7, 9, 255}) {
      desk.spoil(13, b);
      check.due("13 is " + b, desk.valid(), 2);
    }
    desk.spoil(13, 8);
    check.due("13 is 8", desk.valid(), 0);
    desk.spoil(8, 3);
    check.due("8 is 3", desk.valid(), 2);
    desk.spoil(13, 5);
    check.due("8 is 3, and 13 is 5", desk.valid(), 0);
  }

  private static void validImageCheck() {
    check.sentence("Promise 10: 3 the image check is not; 0 the head is right");
    for (int banks : SIZES) {
      CartridgeDesk desk = made(banks);
      int sum = told(desk);
      check.due("as it was made", desk.valid(), 0);
      spoilImageCheck(desk, sum + 1);
      check.due("one more", desk.valid(), 3);
      spoilImageCheck(desk, sum - 1);
      check.due("one less", desk.valid(), 3);
      spoilImageCheck(desk, (sum + 256) % 65536);
      check.due("256 more", desk.valid(), 3);
      spoilImageCheck(desk, sum);
      desk.spoil(banks * 64 - 1, 254);
      check.due("the last byte one less", desk.valid(), 3);
      desk.spoil(0, 193);
      check.due("the first one more", desk.valid(), 0);
    }
  }

  private static void validFirstOfThese() {
    check.sentence("Promise 10: the first of these");
    CartridgeDesk desk = made(2);
    desk.spoil(15, desk.image(15) + 1);
    check.due("3 alone", desk.valid(), 3);
    desk.spoil(13, 9);
    check.due("2 and 3", desk.valid(), 2);
    desk.spoil(2, 0);
    check.due("1, 2 and 3", desk.valid(), 1);
    desk.spoil(13, 8 + 206);
    check.due("1 and 3", desk.valid(), 1);
    desk.spoil(2, 206);
    desk.spoil(13, 8);
    check.due("3 alone again", desk.valid(), 3);
  }

  private static void validWithoutImage() {
    check.sentence("Promise 10: NoSuchElementException without an image");
    CartridgeDesk desk = new CartridgeDesk();
    check.none("of a new object", desk::valid);
    desk.section(0);
    check.none("with a section", desk::valid);
    desk.mended(1, 1);
    check.none("link", () -> desk.link(2));
    check.none("behind a link that is refused", desk::valid);
    desk.section(0);
    desk.link(2);
    check.due("behind a link", desk.valid(), 0);
    desk.clear();
    desk.restart();
    check.due("behind clear and restart", desk.valid(), 0);
  }
}
