/** Holds answers against those that are due, and ends a test as .ci/run wants it. */
final class Check {
  private static int wrong = 0;
  private static int asked = 0;

  private Check() { }

  static void due(String call, long got, long want) {
    asked++;
    if (got != want) {
      wrong++;
      if (wrong <= 50) System.out.println(call + " answered " + got + ", due is " + want);
    }
  }

  static void holds(String what, boolean so) {
    due(what, so ? 1 : 0, 1);
  }

  /** Types a text on THE TAPE, eight bytes a call at the most. */
  static void write(SevenRings x, String text) {
    for (int i = 0; i < text.length(); i += 8) {
      int n = Math.min(8, text.length() - i);
      due("type of " + text.substring(i, i + n), x.type(word(text.substring(i, i + n)), n), i + n);
    }
  }

  static long word(String text) {
    long w = 0;
    for (int i = 0; i < text.length(); i++) w = w << 8 | text.charAt(i);
    return w;
  }

  static int rings(SevenRings x, String text) {
    write(x, text);
    return x.rings();
  }

  static int sea(SevenRings x, int season, int row, String text) {
    write(x, text);
    return x.sea(season, row);
  }

  static void end() {
    System.out.println(asked + " answers, " + wrong + " not as due");
    if (wrong != 0) System.exit(1);
  }
}
