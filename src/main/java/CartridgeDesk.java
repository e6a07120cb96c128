import java.util.NoSuchElementException;

/**
 * Makes cartridges out of sections of bytes, and plays them. The promises that it keeps are
 * numbered in the project's document, DOC.md.
 */
public final class CartridgeDesk {
  public static final int NONE = -1;

  private static final int MOST_SECTIONS = 10;
  private static final int LONGEST_SECTION = 48;
  private static final int MOST_BANKS = 8;
  private static final int BANK_SIZE = 64;
  private static final int HEAD_SIZE = 32;
  private static final int LINES = 4;
  private static final int MOST_STEPS = 2000;

  private static final int PLAIN = 0;
  private static final int ADDRESS_OF = 1;
  private static final int BANK_OF = 2;

  private final Sections sections;
  private final Cartridge cartridge;
  private final Memory memory;
  private final Machine machine;
  private Packing linked;
  private Packing tried;

  public CartridgeDesk() {
    sections = new Sections();
    cartridge = new Cartridge();
    memory = new Memory(cartridge);
    machine = new Machine(memory);
    linked = new Packing();
    tried = new Packing();
  }

  public int section(int bank) throws IllegalArgumentException, IllegalStateException {
    if (bank < NONE || bank >= MOST_BANKS) {
      throw new IllegalArgumentException();
    }
    if (sections.count >= MOST_SECTIONS) {
      throw new IllegalStateException();
    }
    return sections.open(bank);
  }

  public void bytes(int word, int n) throws IllegalArgumentException, IllegalStateException {
    if (n < 1 || n > 4) {
      throw new IllegalArgumentException();
    }
    if (!sections.canTake(n)) {
      throw new IllegalStateException();
    }
    for (int k = n - 1; k >= 0; k--) {
      sections.append(PLAIN, (word >> (8 * k)) & 255);
    }
  }

  public void mended(int kind, int s) throws IllegalArgumentException, IllegalStateException {
    boolean known = kind == ADDRESS_OF || kind == BANK_OF;
    if (!known || s < 0 || s >= MOST_SECTIONS) {
      throw new IllegalArgumentException();
    }
    if (!sections.canTake(1)) {
      throw new IllegalStateException();
    }
    sections.append(kind, s);
  }

  public void clear() {
    sections.count = 0;
  }

  public int link(int banks)
      throws IllegalArgumentException, NoSuchElementException, IllegalStateException {
    if (banks != 2 && banks != 4 && banks != 8) {
      throw new IllegalArgumentException();
    }
    if (sections.count == 0 || sections.lacksOne()) {
      throw new NoSuchElementException();
    }
    if (!tried.pack(sections, banks)) {
      throw new IllegalStateException();
    }
    keepTried();
    cartridge.make(sections, linked, banks);
    machine.begin();
    return sections.total();
  }

  public int packed(int s, int what) throws NoSuchElementException {
    if (s < 0 || s >= linked.count || what < 0 || what > 1) {
      throw new NoSuchElementException();
    }
    return what == 0 ? linked.banks[s] : linked.addressOf(s);
  }

  public int image(int k) throws NoSuchElementException {
    if (k < 0 || k >= cartridge.size()) {
      throw new NoSuchElementException();
    }
    return cartridge.cells[k];
  }

  public void spoil(int k, int b) throws NoSuchElementException {
    if (k < 0 || k >= cartridge.size()) {
      throw new NoSuchElementException();
    }
    cartridge.cells[k] = b & 255;
  }

  public int valid() throws NoSuchElementException {
    if (!cartridge.isMade()) {
      throw new NoSuchElementException();
    }
    return cartridge.verdict();
  }

  public void restart() {
    machine.begin();
  }

  public void raise(int k) throws IllegalArgumentException {
    if (k < 0 || k >= LINES) {
      throw new IllegalArgumentException();
    }
    memory.lines |= 1 << k;
  }

  public int run(int n) throws NoSuchElementException {
    if (!cartridge.isMade()) {
      throw new NoSuchElementException();
    }
    int done = 0;
    while (done < n && done < MOST_STEPS && machine.canGo()) {
      machine.step();
      done++;
    }
    return done;
  }

  public int state() {
    return machine.condition;
  }

  public int register(int r) throws NoSuchElementException {
    boolean needsCartridge = r == Machine.AT_L;
    if (r < 0 || r > Machine.LAST_SHOWN || (needsCartridge && !cartridge.isMade())) {
      throw new NoSuchElementException();
    }
    return machine.shown(r);
  }

  public int peek(int address) throws NoSuchElementException {
    if (address < 0 || address > 255 || !cartridge.isMade()) {
      throw new NoSuchElementException();
    }
    return memory.read(address);
  }

  public int sent() {
    return machine.sentCount;
  }

  public int byteSent(int k) throws NoSuchElementException {
    if (k < 0 || k >= machine.keptCount()) {
      throw new NoSuchElementException();
    }
    return machine.sentBytes[k];
  }

  /** The two packings change places, so that a link that fails leaves the last one whole. */
  private void keepTried() {
    Packing last = linked;
    linked = tried;
    tried = last;
  }

  /** The sections; byte k of section s stands at s * LONGEST_SECTION + k of both rows. */
  private static final class Sections {
    final int[] banks = new int[MOST_SECTIONS];
    final int[] lengths = new int[MOST_SECTIONS];
    final int[] kinds = new int[MOST_SECTIONS * LONGEST_SECTION];
    /** The byte itself where the kind is PLAIN, else the number of the section that mends it. */
    final int[] values = new int[MOST_SECTIONS * LONGEST_SECTION];
    int count;

    int open(int bank) {
      int s = count;
      banks[s] = bank;
      lengths[s] = 0;
      count = s + 1;
      return s;
    }

    boolean canTake(int n) {
      return count > 0 && lengths[count - 1] + n <= LONGEST_SECTION;
    }

    void append(int kind, int value) {
      int s = count - 1;
      int at = s * LONGEST_SECTION + lengths[s];
      kinds[at] = kind;
      values[at] = value;
      lengths[s]++;
    }

    boolean lacksOne() {
      for (int s = 0; s < count; s++) {
        for (int k = 0; k < lengths[s]; k++) {
          int at = s * LONGEST_SECTION + k;
          if (kinds[at] != PLAIN && values[at] >= count) {
            return true;
          }
        }
      }
      return false;
    }

    int total() {
      int sum = 0;
      for (int s = 0; s < count; s++) {
        sum += lengths[s];
      }
      return sum;
    }
  }

  /** Where each section lies: its bank, and its offset in it. */
  private static final class Packing {
    final int[] banks = new int[MOST_SECTIONS];
    final int[] offsets = new int[MOST_SECTIONS];
    final int[] ends = new int[MOST_BANKS];
    int count;

    boolean pack(Sections sections, int bankCount) {
      count = sections.count;
      for (int b = 0; b < MOST_BANKS; b++) {
        ends[b] = b == 0 ? HEAD_SIZE : 0;
      }
      return packPinned(sections, bankCount) && packFloating(sections, bankCount);
    }

    int addressOf(int s) {
      return banks[s] == 0 ? offsets[s] : BANK_SIZE + offsets[s];
    }

    private boolean packPinned(Sections sections, int bankCount) {
      for (int s = 0; s < count; s++) {
        int bank = sections.banks[s];
        if (bank == NONE) {
          continue;
        }
        if (bank >= bankCount || !fits(bank, sections.lengths[s])) {
          return false;
        }
        put(s, bank, sections.lengths[s]);
      }
      return true;
    }

    private boolean packFloating(Sections sections, int bankCount) {
      for (int length = LONGEST_SECTION; length >= 0; length--) {
        for (int s = 0; s < count; s++) {
          boolean due = sections.banks[s] == NONE && sections.lengths[s] == length;
          if (due && !packLowest(s, length, bankCount)) {
            return false;
          }
        }
      }
      return true;
    }

    private boolean packLowest(int s, int length, int bankCount) {
      for (int bank = 0; bank < bankCount; bank++) {
        if (fits(bank, length)) {
          put(s, bank, length);
          return true;
        }
      }
      return false;
    }

    private boolean fits(int bank, int length) {
      return ends[bank] + length <= BANK_SIZE;
    }

    private void put(int s, int bank, int length) {
      banks[s] = bank;
      offsets[s] = ends[bank];
      ends[bank] += length;
    }
  }

  /** The image, with its head and checks. */
  private static final class Cartridge {
    private static final int[] HEAD = {
      192, 0, 206, 237, 102, 204, 0, 0, 0, 0, 0, 0, 0, 0, 0, 0,
      1, 10, 0, 0, 1, 10, 0, 0, 1, 10, 0, 0, 1, 10, 0, 0
    };
    private static final int START = 1;
    private static final int FIRST_MARK = 2;
    private static final int SIZE_CODE = 6;
    private static final int LAST_CHECKED = 12;
    private static final int HEAD_CHECK = 13;
    private static final int IMAGE_CHECK_HIGH = 14;
    private static final int IMAGE_CHECK_LOW = 15;

    final int[] cells = new int[MOST_BANKS * BANK_SIZE];
    private int bankCount;

    boolean isMade() {
      return bankCount != 0;
    }

    int size() {
      return bankCount * BANK_SIZE;
    }

    /** The number of banks is a power of two: a mask is the modulo, and never divides by 0. */
    int at(int bank, int offset) {
      return cells[(bank & (bankCount - 1) & (MOST_BANKS - 1)) * BANK_SIZE + offset];
    }

    void make(Sections sections, Packing packing, int banks) {
      bankCount = banks;
      for (int k = 0; k < size(); k++) {
        cells[k] = 255;
      }
      for (int s = 0; s < sections.count; s++) {
        lay(sections, packing, s);
      }
      writeHead(packing.addressOf(0));
    }

    int verdict() {
      for (int k = FIRST_MARK; k < SIZE_CODE; k++) {
        if (cells[k] != HEAD[k]) {
          return 1;
        }
      }
      if (cells[SIZE_CODE] != sizeCode()) {
        return 1;
      }
      if (cells[HEAD_CHECK] != headCheck()) {
        return 2;
      }
      int told = cells[IMAGE_CHECK_HIGH] * 256 + cells[IMAGE_CHECK_LOW];
      return told == imageCheck() ? 0 : 3;
    }

    private void lay(Sections sections, Packing packing, int s) {
      int from = s * LONGEST_SECTION;
      int to = packing.banks[s] * BANK_SIZE + packing.offsets[s];
      for (int k = 0; k < sections.lengths[s]; k++) {
        int value = sections.values[from + k];
        int kind = sections.kinds[from + k];
        if (kind == ADDRESS_OF) {
          value = packing.addressOf(value);
        } else if (kind == BANK_OF) {
          value = packing.banks[value];
        }
        cells[to + k] = value;
      }
    }

    private void writeHead(int start) {
      for (int k = 0; k < HEAD_SIZE; k++) {
        cells[k] = HEAD[k];
      }
      cells[START] = start;
      cells[SIZE_CODE] = sizeCode();
      cells[HEAD_CHECK] = headCheck();
      int sum = imageCheck();
      cells[IMAGE_CHECK_HIGH] = sum >> 8;
      cells[IMAGE_CHECK_LOW] = sum & 255;
    }

    private int sizeCode() {
      if (bankCount == 8) {
        return 2;
      }
      return bankCount == 4 ? 1 : 0;
    }

    private int headCheck() {
      int check = 0;
      for (int k = FIRST_MARK; k <= LAST_CHECKED; k++) {
        check = (check - cells[k] - 1) & 255;
      }
      return check;
    }

    private int imageCheck() {
      int sum = 0;
      for (int k = 0; k < size(); k++) {
        if (k != IMAGE_CHECK_HIGH && k != IMAGE_CHECK_LOW) {
          sum += cells[k];
        }
      }
      return sum & 65535;
    }
  }

  /** The 256 addresses that the machine sees, with the switches and lines behind them. */
  private static final class Memory {
    private static final int RAM_START = 128;
    private static final int UPPER_START = 192;
    private static final int MASK_ADDRESS = 254;

    private final Cartridge cartridge;
    private final int[] ram = new int[2 * BANK_SIZE];
    private final int[] upper = new int[MASK_ADDRESS - UPPER_START];
    private boolean ramOn;
    private int low;
    private int high;
    private int mode;
    private int mask;
    int lines;

    Memory(Cartridge cartridge) {
      this.cartridge = cartridge;
    }

    void begin() {
      for (int k = 0; k < ram.length; k++) {
        ram[k] = 0;
      }
      for (int k = 0; k < upper.length; k++) {
        upper[k] = 0;
      }
      ramOn = false;
      low = 1;
      high = 0;
      mode = 0;
      mask = 0;
      lines = 0;
    }

    int switches() {
      return (ramOn ? 16 : 0) + 4 * low + 2 * high + mode;
    }

    /** The lowest line that is up and in MASK, or NONE. */
    int askingLine() {
      for (int k = 0; k < LINES; k++) {
        if ((lines & mask & (1 << k)) != 0) {
          return k;
        }
      }
      return NONE;
    }

    int read(int address) {
      if (address < BANK_SIZE) {
        return cartridge.at(mode == 1 ? 4 * high : 0, address);
      }
      if (address < RAM_START) {
        return cartridge.at(4 * high + low, address - BANK_SIZE);
      }
      if (address < UPPER_START) {
        return ramOn ? ram[ramPlace(address)] : 255;
      }
      if (address < MASK_ADDRESS) {
        return upper[address - UPPER_START];
      }
      return address == MASK_ADDRESS ? mask : lines;
    }

    void write(int address, int value) {
      if (address < RAM_START) {
        turnSwitch(address / 32, value);
      } else if (address < UPPER_START) {
        if (ramOn) {
          ram[ramPlace(address)] = value;
        }
      } else if (address < MASK_ADDRESS) {
        upper[address - UPPER_START] = value;
      } else if (address == MASK_ADDRESS) {
        mask = value & 15;
      } else {
        lines = value & 15;
      }
    }

    private int ramPlace(int address) {
      return (mode == 1 ? high * BANK_SIZE : 0) + address - RAM_START;
    }

    private void turnSwitch(int which, int value) {
      switch (which) {
        case 0:
          ramOn = (value & 15) == 10;
          break;
        case 1:
          low = (value & 3) == 0 ? 1 : value & 3;
          break;
        case 2:
          high = value & 1;
          break;
        default:
          mode = value & 1;
          break;
      }
    }
  }

  /** The machine of eight bits. */
  private static final class Machine {
    static final int AT_L = 6;
    static final int LAST_SHOWN = 12;

    private static final int L = 5;
    private static final int A = 7;
    private static final int KEPT_BYTES = 100;
    private static final int FIRST_STACK = 240;

    private static final int GOING = 0;
    private static final int HALTED = 1;
    private static final int STOPPED = 2;
    private static final int LOCKED = 3;

    private final Memory memory;
    private final int[] registers = new int[8];
    private int stack;
    private int place;
    private boolean zero;
    private boolean minus;
    private boolean half;
    private boolean carry;
    private boolean enabled;
    private boolean enabledSoon;
    int condition;
    int sentCount;
    final int[] sentBytes = new int[KEPT_BYTES];

    Machine(Memory memory) {
      this.memory = memory;
      begin();
    }

    void begin() {
      for (int r = 0; r < registers.length; r++) {
        registers[r] = 0;
      }
      stack = FIRST_STACK;
      place = 0;
      setFlags(false, false, false, false);
      enabled = false;
      enabledSoon = false;
      condition = GOING;
      sentCount = 0;
      memory.begin();
    }

    int keptCount() {
      return Math.min(sentCount, KEPT_BYTES);
    }

    int shown(int r) {
      switch (r) {
        case 8:
          return stack;
        case 9:
          return place;
        case 10:
          return (zero ? 8 : 0) + (minus ? 4 : 0) + (half ? 2 : 0) + carryBit();
        case 11:
          return memory.switches();
        case 12:
          return enabled ? 1 : 0;
        default:
          return get(r & 7);
      }
    }

    boolean canGo() {
      return condition == GOING || condition == HALTED;
    }

    void step() {
      int line = memory.askingLine();
      if (condition == HALTED) {
        wakeFor(line);
      } else if (enabled && line != NONE) {
        interruptFor(line);
      } else {
        boolean enabledBehind = enabledSoon;
        enabledSoon = false;
        obey(next());
        // Even behind a 3: the 4 before it speaks of the moment behind it.
        enabled = enabled || enabledBehind;
      }
    }

    private void wakeFor(int line) {
      if (line != NONE) {
        condition = GOING;
        place = (place + 1) & 255;
      }
    }

    private void interruptFor(int line) {
      memory.lines &= ~(1 << line);
      enabled = false;
      push(place);
      place = 16 + 4 * line;
    }

    private void obey(int code) {
      int group = code >> 3;
      int low = code & 7;
      if (group < 2) {
        obeySingle(code);
      } else if (group < 8) {
        obeyOnOne(group, low);
      } else if (group < 16) {
        set(group - 8, get(low));
      } else if (group < 24) {
        calculate(group - 16, get(low));
      } else if (group < 28) {
        obeyJump(group - 24, low);
      } else if (group == 28) {
        calculate(low, next());
      } else if (code == 240) {
        obeyOnBits(next());
      } else {
        endAs(LOCKED);
      }
    }

    private void obeySingle(int code) {
      switch (code) {
        case 0:
          break;
        case 1:
          endAs(HALTED);
          break;
        case 2:
          endAs(STOPPED);
          break;
        case 3:
          enabled = false;
          break;
        case 4:
          enabledSoon = true;
          break;
        case 5:
          place = pull();
          enabled = true;
          break;
        case 6:
          adjust();
          break;
        case 7:
          registers[A] ^= 255;
          setFlags(zero, true, true, carry);
          break;
        case 8:
          setFlags(zero, false, false, true);
          break;
        case 9:
          setFlags(zero, false, false, !carry);
          break;
        case 10:
          place = pull();
          break;
        case 11:
          send(registers[A]);
          break;
        default:
          endAs(LOCKED);
          break;
      }
    }

    private void obeyOnOne(int group, int r) {
      switch (group) {
        case 2:
          set(r, oneMore(get(r)));
          break;
        case 3:
          set(r, oneLess(get(r)));
          break;
        case 4:
          push(get(r));
          break;
        case 5:
          set(r, pull());
          break;
        case 6:
          set(r, next());
          break;
        default:
          set(r, exchanged(get(r)));
          break;
      }
    }

    private void obeyJump(int kind, int when) {
      if (when > 4) {
        endAs(LOCKED);
        return;
      }
      boolean back = kind == 2;
      int n = back ? 0 : next();
      if (!holds(when)) {
        return;
      }
      if (kind == 1) {
        push(place);
      }
      if (back) {
        place = pull();
      } else {
        // Modulo 256 the signed n and the unsigned one lead to the same place.
        place = kind == 3 ? (place + n) & 255 : n;
      }
    }

    private boolean holds(int when) {
      switch (when) {
        case 0:
          return true;
        case 1:
          return !zero;
        case 2:
          return zero;
        case 3:
          return !carry;
        default:
          return carry;
      }
    }

    private void calculate(int kind, int value) {
      switch (kind) {
        case 0:
          registers[A] = sum(value, 0);
          break;
        case 1:
          registers[A] = sum(value, carryBit());
          break;
        case 2:
          registers[A] = difference(value, 0);
          break;
        case 3:
          registers[A] = difference(value, carryBit());
          break;
        case 4:
          registers[A] &= value;
          setFlags(registers[A] == 0, false, true, false);
          break;
        case 5:
          registers[A] ^= value;
          setFlags(registers[A] == 0, false, false, false);
          break;
        case 6:
          registers[A] |= value;
          setFlags(registers[A] == 0, false, false, false);
          break;
        default:
          difference(value, 0);
          break;
      }
    }

    private int sum(int value, int more) {
      int a = registers[A];
      int all = a + value + more;
      int lower = (a & 15) + (value & 15) + more;
      setFlags((all & 255) == 0, false, lower > 15, all > 255);
      return all & 255;
    }

    private int difference(int value, int less) {
      int a = registers[A];
      int all = a - value - less;
      int lower = (a & 15) - (value & 15) - less;
      setFlags((all & 255) == 0, true, lower < 0, all < 0);
      return all & 255;
    }

    private int oneMore(int value) {
      int result = (value + 1) & 255;
      setFlags(result == 0, false, (result & 15) == 0, carry);
      return result;
    }

    private int oneLess(int value) {
      int result = (value - 1) & 255;
      setFlags(result == 0, true, (value & 15) == 0, carry);
      return result;
    }

    private int exchanged(int value) {
      setFlags(value == 0, false, false, false);
      return ((value << 4) & 240) | (value >> 4);
    }

    private void adjust() {
      int a = registers[A];
      boolean overflows = carry || (!minus && a > 153);
      int d = 0;
      if (half || (!minus && (a & 15) > 9)) {
        d = 6;
      }
      if (overflows) {
        d += 96;
      }
      registers[A] = (minus ? a - d : a + d) & 255;
      setFlags(registers[A] == 0, minus, false, overflows);
    }

    private void obeyOnBits(int n) {
      int r = n & 7;
      int kind = n >> 3;
      int bit = 1 << (kind & 7);
      if (kind < 7) {
        set(r, shifted(kind, get(r)));
      } else if (kind >= 24) {
        set(r, get(r) | bit);
      } else if (kind >= 16) {
        set(r, get(r) & ~bit);
      } else if (kind >= 8) {
        setFlags((get(r) & bit) == 0, false, true, carry);
      }
    }

    private int shifted(int kind, int value) {
      boolean left = kind == 0 || kind == 2 || kind == 4;
      int out = left ? value >> 7 : value & 1;
      int in = comesIn(kind, value, out);
      int result = left ? ((value << 1) & 255) | in : (value >> 1) | (in << 7);
      setFlags(result == 0, false, false, out == 1);
      return result;
    }

    private int comesIn(int kind, int value, int out) {
      switch (kind) {
        case 0:
        case 1:
          return out;
        case 2:
        case 3:
          return carryBit();
        case 5:
          return value >> 7;
        default:
          return 0;
      }
    }

    private void send(int value) {
      if (sentCount < KEPT_BYTES) {
        sentBytes[sentCount] = value;
      }
      sentCount++;
    }

    /** The machine rests at the byte that it just took. */
    private void endAs(int newCondition) {
      condition = newCondition;
      place = (place - 1) & 255;
    }

    private int next() {
      int code = memory.read(place);
      place = (place + 1) & 255;
      return code;
    }

    private void push(int value) {
      stack = (stack - 1) & 255;
      memory.write(stack, value);
    }

    private int pull() {
      int value = memory.read(stack);
      stack = (stack + 1) & 255;
      return value;
    }

    private int get(int r) {
      return r == AT_L ? memory.read(registers[L]) : registers[r];
    }

    private void set(int r, int value) {
      if (r == AT_L) {
        memory.write(registers[L], value);
      } else {
        registers[r] = value;
      }
    }

    private int carryBit() {
      return carry ? 1 : 0;
    }

    private void setFlags(boolean z, boolean n, boolean h, boolean c) {
      zero = z;
      minus = n;
      half = h;
      carry = c;
    }
  }
}
