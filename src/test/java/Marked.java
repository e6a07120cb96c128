/** A desk whose banks tell their numbers, and whose program writes a byte where it is told to. */
final class Marked {
  private static final int PROGRAM = 32;
  private static final int STEPS = 3;

  final CartridgeDesk desk = new CartridgeDesk();
  private final int banks;

  /** Bank b begins with 100 + b, and ends with b. */
  Marked(int banks) {
    this.banks = banks;
    desk.section(0);
    desk.link(banks);
    desk.run(1);
    for (int b = 0; b < banks; b++) {
      desk.spoil(b * 64, 100 + b);
      desk.spoil(b * 64 + 63, b);
    }
    int[] program = {53, 0, 54, 0, 192, PROGRAM};
    for (int k = 0; k < program.length; k++) {
      spoilProgram(k, program[k]);
    }
  }

  void write(int address, int value) {
    spoilProgram(1, address);
    spoilProgram(3, value);
    desk.run(STEPS);
  }

  int switches() {
    return desk.register(Bench.SWITCHES);
  }

  /** The program stands in each bank that may be seen at 0 .. 63, so that MODE takes none away. */
  private void spoilProgram(int k, int b) {
    for (int bank = 0; bank < banks; bank += 4) {
      desk.spoil(bank * 64 + PROGRAM + k, b);
    }
  }
}
