/** Promises 11 to 21: seas, PIECES, DRAGS, ODDS. */
public final class EndAndPiecesTest {
  private static final int BAD = SevenRings.BAD, FULL = SevenRings.FULL, NONE = SevenRings.NONE;

  public static void main(String[] args) {
    sea();
    seaFaults();
    cell();
    depth();
    piece();
    drift();
    fits();
    barnacles();
    drag();
    ends();
    oddsByPiecesAndDrags();
    oddsFollow();
    none();
    count();
    clear();
    Check.end();
  }

  private static void due(String call, long got, long want) { Check.due(call, got, want); }

  /** One HOUR from the middle: 24 WAYS, all of WEIGHT 32. */
  private static SevenRings star(int glide) {
    SevenRings x = new SevenRings();
    x.set(1, 55);
    x.set(2, 1);
    x.set(6, glide);
    return x;
  }

  private static void flow(SevenRings x, int season, int course) {
    for (int cell = 0; cell < 100; cell++) x.cell(season, cell, 0, course);
  }

  private static void sea() {
    SevenRings x = new SevenRings();
    due("11", Check.sea(x, 1, 9, "0123456788"), 8);
    for (int c = 0; c < 10; c++) due("11 current", x.cell(1, 90 + c, 0, 8), Math.min(c, 8));
    due("11 other rows stay", x.cell(1, 80, 0, 8), 8);
    due("11 other seasons stay", x.cell(0, 90, 0, 8), 8);
    due("11 blanks", Check.sea(x, 0, 0, "  0 00  0000 000  "), 10);
    due("11 currents drift", x.drift(55, 1, 0), 55);
    due("11 none", Check.sea(x, 0, 0, "8888888888"), 0);
    due("11 only the row is counted", Check.sea(x, 0, 1, "8888888887"), 1);
    Check.write(x, "0");
    due("11", x.sea(-1, 0), BAD);
    due("11", x.sea(2, 0), BAD);
    due("11", x.sea(0, -1), BAD);
    due("11", x.sea(0, 10), BAD);
    due("11 the tape stays by BAD", x.type('1', 1), 2);
    due("11 a fault", x.sea(0, 0), -22);
    due("11 the tape is empty by a fault", x.type('1', 1), 1);
  }

  private static void seaFaults() {
    Object[][] texts = {{"", 0}, {"    ", 4}, {"012345678", 9}, {"012345678  ", 11}, {"9123456780", 0}, {"0123456789", 9},
        {"01234567888", 10}, {"0123456788 ;", 11}, {" x", 1}, {"01+", 2}};
    for (Object[] t : texts) {
      SevenRings x = new SevenRings();
      due("11 fault of '" + t[0] + "'", Check.sea(x, 0, 3, (String) t[0]), -20 - (Integer) t[1]);
      for (int c = 0; c < 10; c++) due("11 the sea stays", x.cell(0, 30 + c, 0, 8), 8);
      due("11 the tape is empty", x.type('1', 1), 1);
    }
  }

  private static void cell() {
    SevenRings x = new SevenRings();
    due("12", x.cell(1, 99, 0, 0), 8);
    due("12", x.cell(1, 99, 0, 8), 0);
    due("12", x.cell(1, 99, 1, 9), 0);
    due("12", x.cell(1, 99, 1, 0), 9);
    due("12 another season", x.cell(0, 99, 1, 0), 0);
    int[][] bad = {{-1, 0, 0, 0}, {2, 0, 0, 0}, {0, -1, 0, 0}, {0, 100, 0, 0}, {0, 0, -1, 0}, {0, 0, 2, 0}, {0, 0, 0, -1},
        {0, 0, 0, 9}, {0, 0, 1, -1}, {0, 0, 1, 10}, {Integer.MAX_VALUE, Integer.MAX_VALUE, 0, 0}};
    for (int[] b : bad) due("12 bad", x.cell(b[0], b[1], b[2], b[3]), BAD);
  }

  private static void depth() {
    SevenRings x = new SevenRings();
    due("13", x.depth(0, 9), 1);
    due("13", x.depth(0, 1), 9);
    due("13", x.depth(99, 2), 1);
    due("13", x.depth(-1, 1), BAD);
    due("13", x.depth(100, 1), BAD);
    due("13", x.depth(0, 0), BAD);
    due("13", x.depth(0, 10), BAD);
    due("13 unchanged", x.depth(0, 1), 1);
  }

  private static void piece() {
    SevenRings x = new SevenRings();
    int[][] bad = {{-1, 1, 0, 0, 0}, {100, 1, 0, 0, 0}, {0, 0, 0, 0, 0}, {0, 25, 0, 0, 0}, {0, 1, -1, 0, 0}, {0, 1, 2, 0, 0},
        {0, 5, 0, -1, 0}, {0, 5, 0, 6, 0}, {0, 5, 0, 0, -1}, {0, 5, 0, 0, 10}};
    for (int[] b : bad) due("14 bad", x.piece(b[0], b[1], b[2], b[3], b[4]), BAD);
    due("14", x.piece(99, 24, 1, 24, 9), 0);
    due("14", x.piece(0, 1, 0, 0, 0), 1);
    due("14", x.piece(0, 1, 0, 1, 0), 2);
    due("14", x.piece(0, 1, 0, 0, 9), 3);
    due("14 full", x.piece(0, 1, 0, 0, 9), FULL);
    for (int[] b : bad) due("14 bad ahead of full", x.piece(b[0], b[1], b[2], b[3], b[4]), BAD);
    due("14", x.count(2), 4);
  }

  private static void drift() {
    SevenRings x = new SevenRings();
    due("15 no sea", x.drift(55, 24, 1), 55);
    flow(x, 0, 2);
    due("15 month 0 is of season 0", x.drift(55, 1, 0), 56);
    due("15 month 1 is of season 1", x.drift(55, 2, 0), 56);
    due("15", x.drift(55, 3, 0), 57);
    due("15 to the edge", x.drift(55, 24, 0), 59);
    flow(x, 1, 4);
    due("15", x.drift(55, 4, 0), 77);
    x.set(7, 6);
    due("15 wind", x.drift(55, 1, 1), 55);
    due("15 not high", x.drift(55, 1, 0), 56);
    due("15 wind", x.drift(55, 2, 1), 64);
    // At the edge the CURRENT is stopped and the WIND is not.
    due("15 it stays for that part alone", x.drift(59, 1, 1), 58);
    x.set(7, 2);
    due("15 stopped behind the current", x.drift(58, 1, 1), 59);
    x.cell(0, 55, 0, 3);
    x.cell(0, 56, 0, 0);
    due("15 the current is that of the CELL ahead of all", x.drift(55, 1, 1), 67);
    x.set(7, 3);
    due("15 a slant that is beyond goes not even in part", x.drift(94, 1, 1), 95);
    int[][] bad = {{-1, 0, 0}, {100, 0, 0}, {0, -1, 0}, {0, 25, 0}, {0, 0, -1}, {0, 0, 2}};
    for (int[] b : bad) due("15 bad", x.drift(b[0], b[1], b[2]), BAD);
  }

  private static void fits() {
    SevenRings x = new SevenRings();
    due("16 none is there", x.fits(0, 0), BAD);
    x.piece(55, 1, 0, 0, 9);
    int[] beside = {44, 45, 46, 54, 56, 64, 65, 66};
    due("16 just there", x.fits(0, 55), 4);
    for (int cell : beside) due("16 beside", x.fits(0, cell), 1);
    int[] off = {33, 43, 47, 53, 57, 63, 75, 77, 35, 0, 99};
    for (int cell : off) due("16 else", x.fits(0, cell), 0);
    x.piece(30, 2, 0, 0, 0);
    due("16 no way round the edge", x.fits(1, 29), 0);
    due("16 no way round the edge", x.fits(1, 39), 0);
    due("16", x.fits(1, 21), 1);
    flow(x, 0, 2);
    due("16 follows the sea", x.fits(0, 54), 4);
    due("16 follows the sea", x.fits(0, 55), 1);
    x.piece(55, 1, 1, 0, 0);
    x.set(7, 4);
    due("16 follows the wind", x.fits(2, 44), 4);
    x.set(7, 0);
    due("16 follows the wind", x.fits(2, 64), 4);
    due("16", x.fits(-1, 0), BAD);
    due("16", x.fits(3, 0), BAD);
    due("16", x.fits(0, -1), BAD);
    due("16", x.fits(0, 100), BAD);
  }

  /** From 55: 56 behind a MONTH, 56 behind two (no CURRENT in SEASON 1), 57 behind three. */
  private static void barnacles() {
    SevenRings x = new SevenRings();
    flow(x, 0, 2);
    for (int age = 0; age <= 3; age++) due("14", x.piece(57, 3, 0, age, 5), age);
    due("16 without age", x.fits(0, 55), 4);
    due("16 month 2 is cold", x.fits(1, 55), 0);
    x.cell(0, 56, 1, 4);
    due("16 too cold yet", x.fits(1, 55), 0);
    x.cell(0, 56, 1, 5);
    due("16 warm enough", x.fits(1, 55), 4);
    due("16 month 1 is cold", x.fits(2, 55), 0);
    x.cell(1, 56, 1, 6);
    due("16 month 1 is warm", x.fits(2, 55), 4);
    due("16 month 0 is cold", x.fits(3, 55), 0);
    x.cell(1, 55, 1, 9);
    due("16 of the other season", x.fits(3, 55), 0);
    x.cell(0, 55, 1, 9);
    due("16 all warm", x.fits(3, 55), 4);
    due("16 where it is at last does not count", x.fits(2, 55), 4);
  }

  private static void drag() {
    SevenRings x = new SevenRings();
    int[][] bad = {{-1, 1}, {100, 1}, {0, 0}, {0, 8}};
    for (int[] b : bad) due("17 bad", x.drag(b[0], b[1]), BAD);
    for (int i = 0; i < 4; i++) due("17", x.drag(99, 1 + 2 * i), i);
    due("17 full", x.drag(0, 1), FULL);
    for (int[] b : bad) due("17 bad ahead of full", x.drag(b[0], b[1]), BAD);
  }

  private static void odds(SevenRings x, int cell, long above, long below) {
    due("18 above of " + cell, x.odds(cell, 0), above);
    due("18 below of " + cell, x.odds(cell, 1), below);
  }

  /** THE END alone, by hand: along each COURSE 64 and 32s behind it. */
  private static void ends() {
    SevenRings x = star(0);
    odds(x, 57, 1, 24);
    odds(x, 59, 0, 1);
    due("20", x.count(4), 24);
    x = star(1);
    odds(x, 56, 1, 36);
    odds(x, 57, 1, 24);
    odds(x, 58, 1, 24);
    odds(x, 59, 1, 72);
    odds(x, 55, 0, 1);
    due("19", x.where(5), 990);
    due("19", x.where(0), 0);
    due("20", x.count(4), 32);
    x = star(3);
    odds(x, 50, 1, 51);
    odds(x, 59, 1, 34);
    odds(x, 58, 2, 51);
    due("19 not beyond CELLS", x.where(5), 991);
    due("18", x.odds(-1, 0), BAD);
    due("18", x.odds(100, 0), BAD);
    due("18", x.odds(0, -1), BAD);
    due("18", x.odds(0, 2), BAD);
    due("19", x.where(-1), BAD);
    due("19", x.where(10), BAD);
    x.set(2, 2);
    x.set(3, 0);
    x.set(6, 1);
    x.set(5, 5);
    x.set(4, 1);
    // Straight on: PACE 1 ends in 57 (64) and 58 (32), PACE 2 SLOWED in 58 (32) and 59 (16): 144 of 8 times that.
    odds(x, 57, 1, 18);
    odds(x, 58, 1, 18);
    odds(x, 59, 1, 72);
  }

  private static void oddsByPiecesAndDrags() {
    SevenRings x = star(1);
    x.piece(56, 1, 0, 0, 0);
    odds(x, 56, 8, 19);
    odds(x, 57, 3, 19);
    odds(x, 45, 2, 19);
    odds(x, 47, 0, 1);
    odds(x, 58, 0, 1);
    due("20", x.count(4), 6);
    due("19", x.where(5), 64 | 128);
    x.drag(56, 4);
    odds(x, 56, 4, 15);
    odds(x, 57, 1, 5);
    x.drag(56, 4);
    odds(x, 56, 2, 13);
    x.drag(99, 7);
    odds(x, 56, 2, 13);
    x.piece(57, 1, 0, 0, 0);
    // 56: 64 by 4 by 1, 57: 96 by 1 by 4, 46 and 66: 64 by 1 by 1; 56 is seen by half twice.
    odds(x, 57, 2, 3);
    odds(x, 56, 1, 9);
    odds(x, 66, 1, 9);
  }

  /** What was reckoned must not outlive what it was reckoned by. */
  private static void oddsFollow() {
    SevenRings x = star(0);
    odds(x, 57, 1, 24);
    x.set(5, 4);
    odds(x, 57, 1, 16);
    x.set(0, 55);
    x.ring(1, 0, 4);
    odds(x, 57, 1, 6);
    odds(x, 77, 1, 12);
    x.piece(58, 1, 0, 0, 0);
    odds(x, 57, 1, 1);
    x.cell(0, 75, 0, 8);
    x.cell(0, 57, 0, 2);
    odds(x, 57, 1, 1);
    x.cell(0, 57, 0, 6);
    odds(x, 57, NONE, NONE);
    due("11", Check.sea(x, 0, 5, "8888888888"), 0);
    odds(x, 57, 1, 1);
    x.clear();
    odds(x, 57, 1, 6);
    x.image();
    x.set(1, 0);
    x.set(5, 60);
    x.drag(57, 1);
    x.restore();
    odds(x, 57, 1, 6);
    due("6", Check.rings(x, "1:?"), 1);
    odds(x, 57, 1, 16);
  }

  private static void none() {
    SevenRings x = star(1);
    x.piece(3, 1, 0, 0, 0);
    due("18 none fits", x.odds(56, 0), NONE);
    due("18 none fits", x.odds(56, 1), NONE);
    due("18 bad ahead of none", x.odds(100, 0), BAD);
    due("19 none", x.where(5), 0);
    due("20 none", x.count(4), 0);
    due("7 ways there are", x.ways(), 24);
    due("10 may is by WAYS alone", x.may(1, 5), 476);
  }

  private static void count() {
    SevenRings x = star(0);
    x.ring(6, 0, 1);
    x.ring(5, 0, 0);
    x.ring(4, 1, 2);
    due("20 how far", x.count(0), 2);
    due("20 tones", x.count(1), 1);
    x.piece(56, 1, 0, 0, 0);
    x.drag(56, 1);
    x.drag(56, 1);
    due("20 pieces", x.count(2), 1);
    due("20 drags", x.count(3), 2);
    due("20 cells", x.count(4), 6);
    due("20", x.count(-1), BAD);
    due("20", x.count(5), BAD);
  }

  private static void clear() {
    SevenRings x = star(0);
    x.piece(0, 1, 0, 0, 0);
    x.piece(0, 1, 0, 0, 0);
    x.drag(57, 7);
    due("21", x.clear(), 3);
    due("21", x.clear(), 0);
    due("21 none is there", x.fits(0, 0), BAD);
    odds(x, 57, 1, 24);
    due("21 from the first again", x.piece(57, 1, 0, 0, 0), 0);
    due("21 from the first again", x.drag(57, 1), 0);
    due("21 not what was", x.fits(0, 57), 4);
  }
}
