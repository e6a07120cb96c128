import java.util.ArrayList;
import java.util.Comparator;
import java.util.List;
import java.util.NoSuchElementException;

/**
 * The document read once more from its first line and written down in another form than the
 * program's, with the Java library: the making of images. What is played is a SecondMachine.
 */
final class SecondReading implements Calls {
  /** A byte is {0, its value}, a mended one {its kind, its section}. */
  private record Section(int bank, List<int[]> bytes) {}

  /** Where a section lies. */
  private record Spot(int bank, int offset) {
    int address() {
      return (bank == 0 ? 0 : 64) + offset;
    }
  }

  private final List<Section> sections = new ArrayList<>();
  private Spot[] packed = {};
  private int[] image = {};
  private SecondMachine machine = new SecondMachine(image);

  @Override
  public int call(int method, int x, int y) {
    switch (method) {
      case SECTION:
        return section(x);
      case BYTES:
        return bytes(x, y);
      case MENDED:
        return mended(x, y);
      case CLEAR:
        sections.clear();
        return 0;
      case LINK:
        return link(x);
      case PACKED:
        need(0 <= x && x < packed.length && (y == 0 || y == 1));
        return y == 0 ? packed[x].bank() : packed[x].address();
      case IMAGE:
        need(0 <= x && x < image.length);
        return image[x];
      case SPOIL:
        need(0 <= x && x < image.length);
        image[x] = Math.floorMod(y, 256);
        return 0;
      case VALID:
        need(image.length > 0);
        return valid();
      case RESTART:
        machine = new SecondMachine(image);
        return 0;
      default:
        return play(method, x);
    }
  }

  private int play(int method, int x) {
    switch (method) {
      case RAISE:
        argue(0 <= x && x <= 3);
        machine.lines[x] = true;
        return 0;
      case RUN:
        need(image.length > 0);
        return machine.run(Math.max(0, Math.min(2000, x)));
      case STATE:
        return machine.state;
      case REGISTER:
        need(0 <= x && x <= 12 && (x != 6 || image.length > 0));
        return machine.register(x);
      case PEEK:
        need(0 <= x && x <= 255 && image.length > 0);
        return machine.read(x);
      case SENT:
        return machine.sent.size();
      default:
        need(0 <= x && x < Math.min(100, machine.sent.size()));
        return machine.sent.get(x);
    }
  }

  private static void argue(boolean asSaid) {
    if (!asSaid) {
      throw new IllegalArgumentException();
    }
  }

  private static void allow(boolean possible) {
    if (!possible) {
      throw new IllegalStateException();
    }
  }

  private static void need(boolean there) {
    if (!there) {
      throw new NoSuchElementException();
    }
  }

  private int section(int bank) {
    argue(bank == CartridgeDesk.NONE || (0 <= bank && bank <= 7));
    allow(sections.size() != 10);
    sections.add(new Section(bank, new ArrayList<>()));
    return sections.size() - 1;
  }

  private int bytes(int word, int n) {
    argue(1 <= n && n <= 4);
    List<int[]> last = lastWithRoomFor(n);
    int before = last.size();
    long rest = word & 0xFFFFFFFFL;
    for (int k = 0; k < n; k++) {
      last.add(before, new int[] {0, (int) (rest % 256)});
      rest /= 256;
    }
    return 0;
  }

  private int mended(int kind, int s) {
    argue((kind == 1 || kind == 2) && 0 <= s && s <= 9);
    lastWithRoomFor(1).add(new int[] {kind, s});
    return 0;
  }

  private List<int[]> lastWithRoomFor(int n) {
    allow(!sections.isEmpty());
    List<int[]> last = sections.get(sections.size() - 1).bytes();
    allow(last.size() + n <= 48);
    return last;
  }

  private int link(int banks) {
    argue(banks == 2 || banks == 4 || banks == 8);
    need(!sections.isEmpty());
    int total = 0;
    for (Section section : sections) {
      for (int[] b : section.bytes()) {
        need(b[0] == 0 || b[1] < sections.size());
        total++;
      }
    }
    packed = pack(banks);
    image = made(banks);
    machine = new SecondMachine(image);
    return total;
  }

  private Spot[] pack(int banks) {
    List<Integer> order = new ArrayList<>();
    for (int s = 0; s < sections.size(); s++) {
      order.add(s);
    }
    // The sort is stable, so what is alike stays by numbers.
    order.sort(Comparator.comparingInt(s -> floats(s) ? 48 - sections.get(s).bytes().size() : -1));
    int[] free = new int[banks];
    free[0] = 32;
    Spot[] spots = new Spot[sections.size()];
    for (int s : order) {
      int length = sections.get(s).bytes().size();
      int bank = floats(s) ? 0 : sections.get(s).bank();
      while (floats(s) && bank < banks && free[bank] + length > 64) {
        bank++;
      }
      allow(bank < banks && free[bank] + length <= 64);
      spots[s] = new Spot(bank, free[bank]);
      free[bank] += length;
    }
    return spots;
  }

  private boolean floats(int s) {
    return sections.get(s).bank() == CartridgeDesk.NONE;
  }

  private int[] made(int banks) {
    int[] cells = new int[banks * 64];
    java.util.Arrays.fill(cells, 255);
    for (int s = 0; s < packed.length; s++) {
      int at = packed[s].bank() * 64 + packed[s].offset();
      for (int[] b : sections.get(s).bytes()) {
        int[] becomes = {b[1], 0, 0};
        if (b[0] != 0) {
          becomes[1] = packed[b[1]].address();
          becomes[2] = packed[b[1]].bank();
        }
        cells[at] = becomes[b[0]];
        at++;
      }
    }
    int[] start = {192, packed[0].address(), 206, 237, 102, 204, sizeByte(banks), 0, 0, 0, 0, 0, 0};
    System.arraycopy(start, 0, cells, 0, start.length);
    for (int k = 16; k < 32; k += 4) {
      System.arraycopy(new int[] {1, 10, 0, 0}, 0, cells, k, 4);
    }
    cells[13] = headCheck(cells);
    cells[14] = imageCheck(cells) / 256;
    cells[15] = imageCheck(cells) % 256;
    return cells;
  }

  private static int sizeByte(int banks) {
    return banks == 2 ? 0 : banks / 4;
  }

  private static int headCheck(int[] cells) {
    int sum = 0;
    for (int k = 2; k <= 12; k++) {
      sum += cells[k];
    }
    return Math.floorMod(-sum - 11, 256);
  }

  private static int imageCheck(int[] cells) {
    int sum = -cells[14] - cells[15];
    for (int cell : cells) {
      sum += cell;
    }
    return sum % 65536;
  }

  private int valid() {
    int size = sizeByte(image.length / 64);
    boolean marks = image[2] == 206 && image[3] == 237 && image[4] == 102 && image[5] == 204;
    if (!marks || image[6] != size) {
      return 1;
    }
    if (image[13] != headCheck(image)) {
      return 2;
    }
    boolean right = image[14] == imageCheck(image) / 256 && image[15] == imageCheck(image) % 256;
    return right ? 0 : 3;
  }
}
