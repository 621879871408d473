/** Section 2 of the document, sentence by sentence: each case at its edge. Promises 11 to 23. */
public final class SeaEdgesTest {
  private static final int BAD = SevenRings.BAD, FULL = SevenRings.FULL, NONE = SevenRings.NONE;
  private static final int[] DOWN = {-1, -1, 0, 1, 1, 1, 0, -1}, RIGHT = {0, 1, 1, 1, 0, -1, -1, -1};

  public static void main(String[] args) {
    noCurrentNoWind();
    currentsAtTheEdges();
    windAtTheEdges();
    oneBehindTheOther();
    seasonsByMonths();
    monthsAtTheirBounds();
    besideAtTheEdges();
    ageAtItsBounds();
    warmthAtItsBounds();
    whereItIsAtTheBeginning();
    emptyAndFull();
    eighths();
    dragsOfOneCell();
    lowestTerms();
    none();
    fullOdds();
    clearing();
    assumptionsOneByOne();
    movesOfWhatIsNotTold();
    thousandthsAreCut();
    noneInOneInBoth();
    mostOfAll();
    leastOdds();
    fuelLeftOut();
    cellZero();
    fitsFollow();
    Check.end();
  }

  private static void due(String call, long got, long want) { Check.due(call, got, want); }

  /** One WAY alone: from 56 to 57 (times 2) and on to 58 and 59 (times 1 each) as G lets. */
  private static SevenRings one(int glide) {
    SevenRings x = new SevenRings();
    x.set(0, 57);
    x.set(1, 56);
    x.set(2, 1);
    x.set(6, glide);
    x.ring(1, 0, 0);
    return x;
  }

  private static void odds(SevenRings x, int cell, long above, long below) {
    due("18 above of " + cell, x.odds(cell, 0), above);
    due("18 below of " + cell, x.odds(cell, 1), below);
  }

  /** Where a COURSE leads from a CELL, or the CELL itself. */
  private static int pushed(int cell, int course) {
    int row = cell / 10 + DOWN[course];
    int column = cell % 10 + RIGHT[course];
    return row < 0 || row > 9 || column < 0 || column > 9 ? cell : 10 * row + column;
  }

  /** A CURRENT or none (8; at first), a WIND or none (8; at first). */
  private static void noCurrentNoWind() {
    SevenRings x = new SevenRings();
    for (int cell = 0; cell < 100; cell++) {
      due("15 nothing moves it", x.drift(cell, 24, 1), cell);
      due("15 nothing moves it", x.drift(cell, 24, 0), cell);
    }
    x.cell(0, 55, 0, 2);
    due("15 a current", x.drift(55, 1, 0), 56);
    x.cell(0, 55, 0, 8);
    due("15 none again", x.drift(55, 1, 0), 55);
    x.set(7, 2);
    due("15 a wind", x.drift(55, 1, 1), 56);
    x.set(7, 8);
    due("15 none again", x.drift(55, 1, 1), 55);
  }

  /** "where that is beyond CELLS, it stays for that part": each COURSE from each CELL. */
  private static void currentsAtTheEdges() {
    for (int course = 0; course < 8; course++) {
      SevenRings x = new SevenRings();
      for (int cell = 0; cell < 100; cell++) {
        x.cell(0, cell, 0, course);
        due("15 current " + course + " from " + cell, x.drift(cell, 1, 0), pushed(cell, course));
        due("15 high, no wind", x.drift(cell, 1, 1), pushed(cell, course));
      }
    }
  }

  private static void windAtTheEdges() {
    for (int course = 0; course < 8; course++) {
      SevenRings x = new SevenRings();
      x.set(7, course);
      for (int cell = 0; cell < 100; cell++) {
        due("15 wind " + course + " from " + cell, x.drift(cell, 1, 1), pushed(cell, course));
        due("15 not high", x.drift(cell, 1, 0), cell);
      }
    }
  }

  /** "goes by its CURRENT; if it is HIGH, by the WIND, too (one behind the other)": each stays for its part alone. */
  private static void oneBehindTheOther() {
    SevenRings x = new SevenRings();
    x.cell(0, 9, 0, 2);
    x.cell(0, 5, 0, 4);
    x.cell(0, 15, 0, 6);
    x.cell(0, 0, 0, 3);
    x.set(7, 4);
    due("15 the current is stopped, the wind is not", x.drift(9, 1, 1), 19);
    x.set(7, 0);
    due("15 the wind is stopped, the current is not", x.drift(0, 1, 1), 1);
    due("15 the wind leads back", x.drift(5, 1, 1), 5);
    due("15 both are stopped", x.drift(9, 1, 1), 9);
    // By wind alone 5 could not go up: it goes from where the current brought it.
    x.set(7, 2);
    due("15 the current of the CELL between counts for nothing", x.drift(5, 1, 1), 16);
    x.set(7, 1);
    due("15 from where the current brought it", x.drift(5, 1, 1), 6);
    due("15 a slant wind that is beyond goes not in part", x.drift(0, 1, 1), 2);
  }

  /** "MONTH m (0 ..) is of SEASON m by 2 (what is left)". */
  private static void seasonsByMonths() {
    SevenRings x = new SevenRings();
    for (int cell = 50; cell < 60; cell++) x.cell(1, cell, 0, 2);
    int[] due = {50, 50, 51, 51, 52, 52, 53, 53, 54, 54, 55};
    for (int n = 0; n <= 10; n++) due("15 by SEASON 1 alone, behind " + n, x.drift(50, n, 0), due[n]);
    due("15 of 17 MONTHS eight are of SEASON 1", x.drift(50, 17, 0), 58);
    due("15 of 18 MONTHS nine are", x.drift(50, 18, 0), 59);
    due("15 no farther", x.drift(50, 24, 0), 59);
    for (int cell = 50; cell < 60; cell++) x.cell(0, cell, 0, 6);
    due("15 to and fro", x.drift(55, 24, 0), 55);
    due("15 to and fro", x.drift(55, 23, 0), 54);
  }

  /** drift and should take 0 .. 24 MONTHS, a PIECE 1 .. 24. */
  private static void monthsAtTheirBounds() {
    SevenRings x = one(0);
    x.set(7, 4);
    due("15 behind none", x.drift(57, 0, 1), 57);
    due("15 behind one", x.drift(57, 1, 1), 67);
    due("15 behind all", x.drift(57, 24, 1), 97);
    due("15 one less", x.drift(57, -1, 1), BAD);
    due("15 one more", x.drift(57, 25, 1), BAD);
    due("25 behind none", x.should(57, 0, 1, 0), 1);
    due("25 behind one", x.should(67, 1, 1, 0), 1);
    due("25 behind all", x.should(97, 24, 1, 0), 1);
    due("25 one less", x.should(57, -1, 1, 0), BAD);
    due("25 one more", x.should(97, 25, 1, 0), BAD);
    due("14 behind none", x.piece(57, 0, 1, 0, 0), BAD);
    due("14 behind one", x.piece(67, 1, 1, 0, 0), 0);
    due("14 behind all", x.piece(97, 24, 1, 0, 0), 1);
    due("14 one more", x.piece(97, 25, 1, 0, 0), BAD);
    due("16 behind one", x.fits(0, 57), 4);
    due("16 behind all", x.fits(1, 57), 4);
    // 24 MONTHS of 1 CELL each would be too many for CELLS, so of each ROW it comes down to the last.
    for (int row = 0; row < 10; row++) due("16 from each ROW", x.fits(1, 10 * row + 7), 4);
    for (int row = 0; row < 10; row++) due("16 beside", x.fits(1, 10 * row + 6), 1);
    for (int row = 0; row < 10; row++) due("16 off", x.fits(1, 10 * row + 5), 0);
  }

  /** "1, if it is BESIDE that CELL (next to it by some COURSE), else 0": from each CELL, no way round. */
  private static void besideAtTheEdges() {
    for (int found : new int[] {0, 9, 90, 99, 5, 50, 59, 95, 44}) {
      SevenRings x = new SevenRings();
      x.piece(found, 1, 0, 0, 0);
      for (int cell = 0; cell < 100; cell++) {
        int due = cell == found ? 4 : 0;
        for (int course = 0; course < 8; course++) if (cell != found && pushed(found, course) == cell) due = 1;
        due("16 found in " + found + " from " + cell, x.fits(0, cell), due);
      }
    }
  }

  /** "0, if in one of the last AGE of these MONTHS .. is below": AGE 0 none, AGE n all of them. */
  private static void ageAtItsBounds() {
    for (int n : new int[] {1, 2, 3, 24}) {
      for (int coldAt = 0; coldAt < n; coldAt++) {
        if (n == 24 && coldAt > 1 && coldAt < 22) continue;
        SevenRings x = coldMonth(n, coldAt);
        int[] ages = {0, n - coldAt - 1, n - coldAt, n};
        for (int age : ages) {
          int number = x.piece(x.drift(0, n, 1), n, 1, age, 5);
          due("16 " + n + " MONTHS, AGE " + age + ", cold in " + coldAt, x.fits(number, 0), coldAt >= n - age ? 0 : 4);
        }
      }
    }
  }

  /**
   * From CELL 0 a PIECE comes to another CELL each MONTH, so one MONTH alone can be cold: by the WIND down, in
   * the last ROW by CURRENTS to the right.
   */
  private static SevenRings coldMonth(int n, int coldAt) {
    SevenRings x = new SevenRings();
    x.set(7, 4);
    for (int column = 0; column < 10; column++) {
      x.cell(0, 90 + column, 0, 2);
      x.cell(1, 90 + column, 0, 2);
    }
    for (int month = 0; month < n; month++) {
      int at = x.drift(0, month, 1);
      // Behind 18 MONTHS it lies in CELL 99, and a CELL has but one WARMTH in a SEASON.
      if (month < 18 || at != 99) x.cell(month % 2, at, 1, month == coldAt ? 4 : 5);
    }
    boolean coldEven = coldAt >= 18 && coldAt % 2 == 0;
    boolean coldOdd = coldAt >= 18 && coldAt % 2 == 1;
    x.cell(0, 99, 1, coldEven ? 4 : 5);
    x.cell(1, 99, 1, coldOdd ? 4 : 5);
    return x;
  }

  /** WARMTH and what is needed, 0 .. 9 each: as warm is warm enough. */
  private static void warmthAtItsBounds() {
    for (int warmth = 0; warmth <= 9; warmth++) {
      SevenRings x = new SevenRings();
      x.cell(0, 55, 1, warmth);
      for (int need = 0; need <= 9; need++) {
        due("14", x.piece(55, 1, 0, 1, need), need % 4);
        due("16 need " + need + " of " + warmth, x.fits(need % 4, 55), warmth >= need ? 4 : 0);
        if (need % 4 == 3) x.clear();
      }
    }
    SevenRings x = new SevenRings();
    x.cell(1, 55, 1, 9);
    x.piece(55, 1, 0, 1, 1);
    due("16 the other SEASON is warm", x.fits(0, 55), 0);
    x.cell(0, 55, 1, 1);
    due("16 this one, too", x.fits(0, 55), 4);
  }

  /** "(where it is at the beginning of each)": not where it comes to, not where the CURRENT brought it ahead of the WIND. */
  private static void whereItIsAtTheBeginning() {
    SevenRings x = new SevenRings();
    x.cell(0, 55, 0, 2);
    x.set(7, 4);
    x.piece(66, 1, 1, 1, 9);
    x.cell(0, 56, 1, 9);
    x.cell(0, 66, 1, 9);
    due("16 it began where it is cold", x.fits(0, 55), 0);
    x.cell(0, 55, 1, 9);
    x.cell(0, 56, 1, 0);
    x.cell(0, 66, 1, 0);
    due("16 it began where it is warm", x.fits(0, 55), 4);
    x.cell(0, 45, 1, 9);
    due("16 beside, and warm", x.fits(0, 45), 1);
    x.cell(0, 45, 1, 8);
    due("16 beside, and cold", x.fits(0, 45), 0);
  }

  /** PIECES 0 .. 3 and DRAGS 0 .. 3, as they come. */
  private static void emptyAndFull() {
    SevenRings x = new SevenRings();
    due("16 none is there", x.fits(0, 55), BAD);
    for (int i = 0; i < 4; i++) {
      due("20 pieces", x.count(2), i);
      due("14", x.piece(50 + i, 1, 0, 0, 0), i);
      due("16 its own", x.fits(i, 50 + i), 4);
      due("16 none behind it", x.fits(i + 1, 50), BAD);
      due("20 drags", x.count(3), i);
      due("17", x.drag(0, 1 + i), i);
    }
    due("14 full", x.piece(54, 1, 0, 0, 0), FULL);
    due("17 full", x.drag(0, 1), FULL);
    due("20 pieces", x.count(2), 4);
    due("20 drags", x.count(3), 4);
    for (int i = 0; i < 4; i++) due("16 still its own", x.fits(i, 50 + i), 4);
    due("21 all go", x.clear(), 8);
    for (int i = 0; i < 4; i++) {
      due("16 gone", x.fits(i, 50 + i), BAD);
      due("22 gone", x.moves(8 + i), BAD);
    }
    due("14 the first again", x.piece(54, 1, 0, 0, 0), 0);
    due("17 the first again", x.drag(0, 1), 0);
    due("14 the second", x.piece(55, 1, 0, 0, 0), 1);
  }

  /** "what is there is missed by 8 less EIGHTHS": 57 has 2, 58 has 1. */
  private static void eighths() {
    int[][] of57 = {{7, 11}, {3, 5}, {5, 9}, {1, 2}, {3, 7}, {1, 3}, {1, 5}};
    for (int e = 1; e <= 7; e++) {
      SevenRings x = one(1);
      x.drag(57, e);
      odds(x, 57, of57[e - 1][0], of57[e - 1][1]);
      odds(x, 58, of57[e - 1][1] - of57[e - 1][0], of57[e - 1][1]);
    }
    SevenRings x = one(1);
    x.drag(0, 7);
    odds(x, 57, 2, 3);
    x.drag(99, 1);
    odds(x, 58, 1, 3);
  }

  /** All four of one CELL; a CELL that is alone stays sure. */
  private static void dragsOfOneCell() {
    SevenRings x = one(1);
    for (int i = 0; i < 4; i++) x.drag(57, 7);
    odds(x, 57, 1, 2049);
    odds(x, 58, 2048, 2049);
    x = one(1);
    x.drag(57, 7);
    x.drag(58, 7);
    odds(x, 57, 2, 3);
    x.drag(57, 1);
    x.drag(58, 2);
    odds(x, 57, 7, 10);
    x = one(0);
    for (int i = 0; i < 4; i++) x.drag(57, 7);
    odds(x, 57, 1, 1);
  }

  private static void lowestTerms() {
    SevenRings x = one(0);
    odds(x, 57, 1, 1);
    odds(x, 58, 0, 1);
    odds(x, 0, 0, 1);
    odds(x, 99, 0, 1);
    x = one(2);
    odds(x, 57, 1, 2);
    odds(x, 59, 1, 4);
    x.piece(59, 1, 0, 0, 0);
    // 58 by 1, 59 by 4; 57 is two off.
    odds(x, 57, 0, 1);
    odds(x, 58, 1, 5);
    odds(x, 59, 4, 5);
  }

  /** "None, if that sum is 0": by WAYS, by PIECES; DRAGS alone never make it 0. */
  private static void none() {
    SevenRings x = one(1);
    x.ring(1, 0, 40);
    due("18 no WAY", x.odds(57, 0), NONE);
    x.ring(1, 0, 0);
    odds(x, 57, 2, 3);
    x.piece(54, 1, 0, 0, 0);
    due("18 no PIECE fits", x.odds(57, 0), NONE);
    due("18 no PIECE fits", x.odds(57, 1), NONE);
    due("18 no PIECE fits", x.odds(0, 0), NONE);
    due("20", x.count(4), 0);
    due("19", x.where(5), 0);
    due("24", x.next(), NONE);
    due("25", x.should(54, 1, 0, 0), NONE);
    x.clear();
    for (int i = 0; i < 4; i++) x.drag(57 + i % 2, 7);
    odds(x, 57, 2, 3);
    due("20", x.count(4), 2);
    due("19", x.where(5), 128 | 256);
    // Each PIECE fits from some CELL, but none from which all fit.
    x.clear();
    x.piece(56, 1, 0, 0, 0);
    odds(x, 57, 1, 1);
    x.piece(59, 1, 0, 0, 0);
    due("18 not both", x.odds(57, 0), NONE);
  }

  /** All that multiplies at its most: RINGS of six HOURS, four PIECES that FIT 4, four DRAGS elsewhere. */
  private static void fullOdds() {
    SevenRings x = new SevenRings();
    x.set(3, 0);
    x.set(6, 3);
    for (int hour = 1; hour <= 6; hour++) x.ring(hour, 0, 2 * hour);
    // Right and down, of like weight: 6, 7, 8, 9 and 60, 70, 80, 90 by 2, 1, 1, 1.
    odds(x, 6, 1, 5);
    odds(x, 90, 1, 10);
    due("20", x.count(4), 8);
    for (int i = 0; i < 4; i++) x.piece(6, 24, 0, 24, 0);
    // 6 by 2 and 256, 7 by 1 and 1.
    odds(x, 6, 512, 513);
    odds(x, 7, 1, 513);
    odds(x, 60, 0, 1);
    for (int i = 0; i < 4; i++) x.drag(7, 7);
    odds(x, 6, 2097152, 2097153);
    odds(x, 7, 1, 2097153);
    due("8", x.weight(), 4096);
  }

  /** Promise 21: "All PIECES and DRAGS go: how many." */
  private static void clearing() {
    for (int pieces = 0; pieces <= 4; pieces += 2) {
      for (int drags = 0; drags <= 4; drags++) {
        SevenRings x = one(1);
        for (int i = 0; i < pieces; i++) x.piece(58, 1, 0, 0, 0);
        for (int i = 0; i < drags; i++) x.drag(57, 5);
        due("21", x.clear(), pieces + drags);
        due("20", x.count(2) + x.count(3), 0);
        due("21 none is left", x.clear(), 0);
        odds(x, 57, 2, 3);
        due("24 no longer dragged", x.next(), 57);
        due("20 RINGS stay", x.count(0), 1);
      }
    }
  }

  /** ASSUMPTIONS 0 .. 12, each the only one that tells something. ODDS are 1000 of one CELL with it. */
  private static void assumptionsOneByOne() {
    SevenRings x = one(0);
    // Without the RING all 24 WAYS from 56 are inside: 41 thousandths each (41.6 cut).
    due("22 the RING", x.moves(0), 1000 - 41 + 23 * 41);
    for (int a = 1; a <= 7; a++) due("22 not told: " + a, x.moves(a), 0);
    due("22 no DRAGS", x.moves(12), 0);
    for (int hour = 1; hour <= 6; hour++) {
      x = new SevenRings();
      x.set(3, 0);
      x.ring(hour, 0, 40);
      for (int a = 0; a <= 5; a++) due("22 RING " + (a + 1) + " of " + hour, x.moves(a), a == hour - 1 ? 1000 : 0);
    }
    tonesLeftOut();
  }

  /** 6 is all TONES, each with no HOW FAR of its RING; a RING goes with its own TONE alone. */
  private static void tonesLeftOut() {
    SevenRings x = new SevenRings();
    x.set(0, 55);
    x.set(1, 55);
    x.set(2, 2);
    x.set(3, 0);
    x.ring(1, 1, 1);
    due("22 one TONE", x.moves(6), 1000);
    due("22 its RING", x.moves(0), 1000);
    x.ring(2, 1, 1);
    due("22 both TONES", x.moves(6), 1000);
    due("22 without the first none is left, either", x.moves(0), 0);
    due("22 without the second none is left, either", x.moves(1), 0);
    x.ring(1, 0, 40);
    due("22 HOW FAR stays without TONES", x.moves(6), 0);
    due("20 nothing was left out for good", x.count(0) + x.count(1), 3);
  }

  private static void movesOfWhatIsNotTold() {
    SevenRings x = new SevenRings();
    for (int a = 0; a <= 7; a++) due("22 nothing is told", x.moves(a), 0);
    due("22 nothing is told", x.moves(12), 0);
    for (int a = 8; a <= 11; a++) due("22 no PIECE", x.moves(a), BAD);
    due("22 ahead of the first", x.moves(-1), BAD);
    due("22 behind the last", x.moves(13), BAD);
    due("23 nothing is told", x.most(), 0);
  }

  /** "in thousandths (of each cut) added": 57, 58, 59 have 2, 1, 1; with a PIECE in 58 they have 2, 4, 1 of 7. */
  private static void thousandthsAreCut() {
    SevenRings x = one(2);
    x.piece(58, 1, 0, 0, 0);
    odds(x, 57, 2, 7);
    odds(x, 58, 4, 7);
    odds(x, 59, 1, 7);
    // 285.7, 571.4, 142.8 against 500, 250, 250: cut to 285, 571, 142.
    due("22", x.moves(8), 215 + 321 + 108);
    x = one(1);
    x.drag(57, 7);
    // 1 and 4 of 5 against 2 and 1 of 3 (666.6, 333.3).
    due("22", x.moves(12), 466 + 467);
    x = one(0);
    x.drag(57, 7);
    due("22 what is sure stays sure", x.moves(12), 0);
  }

  /** "(1000, if there are none in just one of both; 0, if in both)". */
  private static void noneInOneInBoth() {
    SevenRings x = one(0);
    x.piece(0, 1, 0, 0, 0);
    due("22 none with it", x.moves(8), 1000);
    due("22 none in both", x.moves(0), 0);
    due("22 none in both", x.moves(7), 0);
    due("22 none in both", x.moves(12), 0);
    x.piece(99, 1, 0, 0, 0);
    due("22 another one lets none, either", x.moves(8), 0);
    due("22 another one lets none, either", x.moves(9), 0);
    x = one(0);
    x.set(5, 0);
    due("22 FUEL lets none", x.moves(7), 1000);
    due("22 none in both", x.moves(0), 0);
    x.ring(1, 0, 40);
    due("22 FUEL and RING let none", x.moves(7), 0);
    due("22 FUEL and RING let none", x.moves(0), 0);
    due("23 none in all: the first", x.most(), 0);
  }

  /** "The ASSUMPTION that MOVES most, of like ones the first"; PIECES that are not there are none. */
  private static void mostOfAll() {
    for (int hour = 1; hour <= 6; hour++) {
      SevenRings x = new SevenRings();
      x.set(3, 0);
      x.ring(hour, 0, 40);
      due("23 the RING", x.most(), hour - 1);
      x.ring(hour, 0, -1);
      x.set(0, 0);
      x.ring(hour, 1, 1);
      due("23 the RING ahead of all TONES", x.most(), hour - 1);
    }
    SevenRings x = new SevenRings();
    x.set(3, 0);
    x.ring(1, 1, 1);
    x.ring(2, 1, 1);
    due("23 all TONES", x.most(), 6);
    x = new SevenRings();
    x.set(5, 0);
    due("23 FUEL", x.most(), 7);
    for (int piece = 0; piece < 4; piece++) {
      x = one(2);
      x.ring(1, 0, -1);
      for (int i = 0; i < 4; i++) {
        // One that fits from nowhere lets no ODDS: without it there are some, without another one there are none.
        if (i == piece) x.piece(0, 1, 0, 0, 0);
        else x.piece(57, 1, 0, 0, 0);
      }
      due("23 PIECE " + piece, x.most(), 8 + piece);
    }
    x = one(1);
    x.ring(1, 0, -1);
    x.set(5, 1);
    x.drag(57, 7);
    Check.holds("23 DRAGS", x.moves(12) > 0 && x.moves(12) < x.moves(7));
    due("23 FUEL ahead of DRAGS", x.most(), 7);
    x.set(5, 60);
    due("23 DRAGS", x.most(), 12);
  }

  /** One WAY of WEIGHT 1: 72 has 2 and 83 has 1, the least that a CELL can have above 0; seen from 94. */
  private static SevenRings least() {
    SevenRings x = new SevenRings();
    int[] settings = {94, 20, 3, 2, 1, 60, 1, 8};
    for (int what = 0; what < 8; what++) x.set(what, settings[what]);
    due("6", Check.rings(x, "1:9;2:12;3:4"), 3);
    due("7 one WAY", x.ways(), 1);
    due("8 of WEIGHT 1", x.weight(), 1);
    return x;
  }

  private static void leastOdds() {
    SevenRings x = least();
    odds(x, 72, 2, 3);
    odds(x, 83, 1, 3);
    due("19", x.where(7), 4);
    due("19", x.where(8), 8);
    due("20", x.count(4), 2);
    due("25", x.should(83, 0, 0, 0), 1);
    due("25", x.should(83, 0, 0, 1), 3);
    x.drag(72, 7);
    odds(x, 72, 1, 5);
    odds(x, 83, 4, 5);
    due("24", x.next(), 83);
    due("22", x.moves(12), 466 + 467);
    x = least();
    x.piece(74, 1, 0, 0, 0);
    // 83 is beside 74, 72 is not: the sum is 1.
    odds(x, 83, 1, 1);
    odds(x, 72, 0, 1);
    due("24", x.next(), 83);
    due("25", x.should(83, 0, 1, 1), 1);
    due("22", x.moves(8), 666 + 667);
    x.drag(0, 1);
    due("22 by DRAGS elsewhere nothing moves", x.moves(12), 0);
    x.clear();
    x.piece(83, 1, 0, 0, 0);
    // 72 is beside 83: 2 by 1 against 1 by 4.
    odds(x, 83, 2, 3);
    x.piece(84, 1, 0, 0, 0);
    odds(x, 83, 1, 1);
  }

  /** ASSUMPTION 7: as much FUEL as any WAY needs, 54: two WAYS from corner to corner, at PACE 3 all the six HOURS. */
  private static void fuelLeftOut() {
    for (int fuel : new int[] {0, 21, 53}) {
      SevenRings x = new SevenRings();
      x.set(0, 99);
      x.ring(6, 0, 0);
      x.set(5, fuel);
      due("7 too little FUEL", x.ways(), 0);
      due("22 without FUEL there are some", x.moves(7), 1000);
      due("23 FUEL or the RING", x.most(), fuel < 6 ? 7 : 5);
      x.set(5, 54);
      due("7 enough FUEL", x.ways(), 2);
      due("22 enough FUEL", x.moves(7), 0);
    }
  }

  /** CELL 0 counts like others: from 10 to 0 alone, and on beyond. */
  private static void cellZero() {
    SevenRings x = new SevenRings();
    x.set(1, 10);
    x.set(2, 1);
    x.ring(1, 0, 0);
    odds(x, 0, 1, 1);
    due("25 behind none", x.should(0, 0, 0, 0), 1);
    due("25 behind all", x.should(0, 24, 0, 0), 1);
    x.ring(1, 0, -1);
    x.set(6, 0);
    due("7", x.ways(), 11);
    x.piece(0, 1, 0, 0, 0);
    // 0 by 4, 1 and 11 by 1; 10 is THE START. Without it all eleven have 90 thousandths.
    odds(x, 0, 2, 3);
    due("22", x.moves(8), 666 - 90 + 2 * (166 - 90) + 8 * 90);
    due("20", x.count(4), 3);
    due("10 THE START", x.may(0, 1), 1);
    due("10 not CELL 0", x.may(0, 0), 0);
  }

  /** What a PIECE FITS from a CELL is as WIND, CURRENTS and WARMTH are now, asked of the same CELL again and again. */
  private static void fitsFollow() {
    SevenRings x = one(0);
    x.piece(57, 1, 1, 1, 3);
    due("16 cold", x.fits(0, 57), 0);
    due("18 cold", x.odds(57, 0), NONE);
    x.cell(0, 57, 1, 3);
    due("16 warm", x.fits(0, 57), 4);
    odds(x, 57, 1, 1);
    x.set(7, 2);
    due("16 by the WIND", x.fits(0, 57), 1);
    x.set(7, 8);
    due("16 without it", x.fits(0, 57), 4);
    x.cell(0, 57, 0, 0);
    due("16 by a CURRENT", x.fits(0, 57), 1);
    x.set(7, 0);
    due("16 by both", x.fits(0, 57), 0);
    due("18 by both", x.odds(57, 0), NONE);
    due("11", Check.sea(x, 0, 5, "8888888488"), 1);
    due("16 there and back", x.fits(0, 57), 4);
    odds(x, 57, 1, 1);
    x.image();
    x.set(7, 8);
    due("16 down", x.fits(0, 57), 1);
    x.clear();
    x.piece(77, 2, 1, 0, 0);
    due("16 another PIECE", x.fits(0, 57), 1);
    x.restore();
    due("16 the one ahead", x.fits(0, 57), 4);
  }
}
