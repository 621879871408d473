/** Promises 22 to 28: what ASSUMPTIONS move, where next, what should be found, KNOWN FLIGHTS, IMAGES. */
public final class MovesAndNextTest {
  private static final int BAD = SevenRings.BAD, NOT = SevenRings.NOT, NONE = SevenRings.NONE;

  public static void main(String[] args) {
    movesOfRings();
    movesOfTones();
    movesOfFuel();
    movesOfPiecesAndDrags();
    movesWithNone();
    most();
    next();
    should();
    heldAnswers();
    heldCounts();
    heldLeavesOut();
    knownFlights();
    knownFlightsOfSixHours();
    image();
    Check.end();
  }

  private static void due(String call, long got, long want) { Check.due(call, got, want); }

  /** One HOUR from the middle, seen from there, no gliding: 24 CELLS, 8 at each PACE. */
  private static SevenRings star() {
    SevenRings x = new SevenRings();
    x.set(0, 55);
    x.set(1, 55);
    x.set(2, 1);
    x.set(6, 0);
    return x;
  }

  /** 8 CELLS of 125 thousandths against 24 of 41 (41.67 cut). */
  private static final int FROM_8_TO_24 = 8 * (125 - 41) + 16 * 41;

  private static void movesOfRings() {
    SevenRings x = star();
    for (int a = 0; a <= 7; a++) due("22 nothing is told", x.moves(a), 0);
    x.ring(1, 0, 2);
    due("22 a ring", x.moves(0), FROM_8_TO_24);
    due("22 another one", x.moves(1), 0);
    due("22 nothing was left out for good", x.ways(), 8);
    due("22 nothing was left out for good", x.odds(56, 1), 8);
    x.ring(2, 0, 40);
    x.ring(2, 1, 1);
    due("22 beyond H", x.moves(1), 0);
    x.ring(1, 1, 2);
    due("22 with its tone", x.moves(0), FROM_8_TO_24);
    x.ring(1, 0, -1);
    x.ring(1, 1, 1);
    due("22 a tone alone: none in just one", x.moves(0), 1000);
    due("22", x.moves(-1), BAD);
    due("22", x.moves(13), BAD);
    due("22", x.moves(Integer.MIN_VALUE), BAD);
    due("22", x.moves(Integer.MAX_VALUE), BAD);
  }

  /** Seen from 50: TO leaves 9 CELLS of 24 (111 thousandths each). */
  private static void movesOfTones() {
    SevenRings x = star();
    x.set(0, 50);
    x.ring(1, 1, 1);
    due("22 tones", x.moves(6), 9 * (111 - 41) + 15 * 41);
    due("22 its ring", x.moves(0), 9 * (111 - 41) + 15 * 41);
    x.ring(1, 0, 8);
    // 54 and two slanting CELLS of PACE 1 are just 8 FAR, two of PACE 2 and two of 3 are 7: 3 by 2 and 4 by 1.
    due("7", x.ways(), 7);
    due("22 a tone that says nothing new", x.moves(6), 0);
    due("22 the ring with its tone", x.moves(0), 3 * (200 - 41) + 4 * (100 - 41) + 17 * 41);
    x.ring(2, 1, 1);
    due("22 a tone beyond H", x.moves(6), 0);
  }

  private static void movesOfFuel() {
    SevenRings x = star();
    x.set(5, 3);
    due("22 fuel", x.moves(7), FROM_8_TO_24);
    x.set(5, 8);
    due("22 fuel", x.moves(7), 16 * (62 - 41) + 8 * 41);
    x.set(5, 9);
    due("22 enough", x.moves(7), 0);
    x.set(5, 0);
    due("22 no WAY by it", x.moves(7), 1000);
    due("22 still set", x.set(5, 0), 0);
  }

  private static void movesOfPiecesAndDrags() {
    SevenRings x = star();
    x.set(5, 1);
    // 8 CELLS round 55 of 125; found in 45: 45 by 4, 44, 46, 54, 56 by 1.
    for (int a = 8; a <= 11; a++) due("22 not there", x.moves(a), BAD);
    due("22 no drags", x.moves(12), 0);
    x.piece(45, 1, 0, 0, 0);
    due("18", x.odds(45, 0), 1);
    due("18", x.odds(45, 1), 2);
    due("22 a piece", x.moves(8), (500 - 125) + 3 * 125);
    for (int a = 9; a <= 11; a++) due("22 not there", x.moves(a), BAD);
    due("22 the piece is still there", x.count(2), 1);
    x.drag(45, 4);
    // 2 of 6 against 4 of 8, others 1 of 6 against 1 of 8.
    due("22 drags", x.moves(12), (500 - 333) + 4 * (166 - 125));
    x.drag(44, 7);
    x.drag(99, 1);
    due("22 all drags", x.moves(12), twoDrags());
    due("22 the drags are still there", x.count(3), 3);
    x.piece(0, 1, 0, 0, 0);
    due("22 none with it", x.moves(9), 1000);
    due("22 none in both", x.moves(8), 0);
  }

  /** 45 by 4 and 8, 44 by 8 and 1, 46, 54, 56 by 8 and 8: 128, 8, 64, 64, 64 of 328 against 4, 1, 1, 1, 1 of 8. */
  private static int twoDrags() {
    return Math.abs(500 - 128000 / 328) + Math.abs(125 - 8000 / 328) + 3 * Math.abs(125 - 64000 / 328);
  }

  private static void movesWithNone() {
    SevenRings x = star();
    x.ring(1, 0, 40);
    due("22 none in just one", x.moves(0), 1000);
    due("22 none in both", x.moves(6), 0);
    due("22 none in both", x.moves(7), 0);
    due("22 none in both", x.moves(12), 0);
    x.set(5, 0);
    due("22 none in both", x.moves(0), 0);
  }

  private static void most() {
    SevenRings x = star();
    due("23 all move nothing: the first", x.most(), 0);
    x.set(5, 3);
    due("23 fuel", x.most(), 7);
    x.ring(1, 0, 2);
    due("23 ring and fuel say the same, neither moves", x.most(), 0);
    x.set(5, 60);
    due("23 the ring", x.most(), 0);
    x.ring(1, 0, -1);
    x.piece(45, 1, 0, 0, 0);
    due("23 a piece", x.most(), 8);
    x.piece(45, 1, 0, 0, 0);
    due("23 of like ones the first", x.most(), 8);
    x.clear();
    x.drag(45, 7);
    due("23 drags", x.most(), 12);
    x.drag(45, 7);
    x.piece(3, 1, 0, 0, 0);
    due("23 what leaves none", x.most(), 8);
    x = star();
    x.set(0, 50);
    x.ring(1, 1, 1);
    due("23 ring 1 ahead of all tones", x.most(), 0);
    x.set(2, 2);
    x.ring(2, 1, 1);
    Check.holds("23 all tones move more than one", x.moves(6) > x.moves(0) && x.moves(6) > x.moves(1));
    due("23 all tones", x.most(), 6);
  }

  private static void next() {
    SevenRings x = star();
    due("24 of like ones the least", x.next(), 22);
    x.set(6, 1);
    due("24 the greatest", x.next(), 22);
    x.piece(56, 1, 0, 0, 0);
    due("24", x.next(), 56);
    x.drag(56, 1);
    due("24 not of a drag", x.next(), 57);
    for (int cell = 0; cell < 100; cell++) x.depth(cell, 2);
    x.depth(57, 3);
    due("24 by depth: like ones", x.next(), 45);
    x.depth(57, 2);
    due("24 by depth", x.next(), 57);
    x.depth(57, 9);
    x.depth(66, 1);
    due("24 by depth", x.next(), 66);
    x.depth(66, 9);
    x.depth(45, 9);
    x.depth(46, 9);
    x.depth(65, 9);
    x.depth(57, 8);
    due("24 fractions are not cut", x.next(), 57);
    x.clear();
    x.piece(3, 1, 0, 0, 0);
    due("24 no odds", x.next(), NONE);
    x.clear();
    x.set(5, 1);
    x.set(6, 0);
    x.piece(33, 1, 0, 0, 0);
    due("24 the only one", x.next(), 44);
    x.drag(44, 1);
    due("24 all were dragged", x.next(), NONE);
    x = star();
    x.set(1, 11);
    x.piece(0, 1, 0, 0, 0);
    due("24 the greatest is CELL 0", x.next(), 0);
  }

  private static void should() {
    SevenRings x = star();
    x.set(5, 1);
    due("25 month 0 is where it ended", x.should(56, 0, 0, 0), 1);
    due("25", x.should(56, 0, 0, 1), 8);
    due("25 nowhere", x.should(0, 0, 0, 0), 0);
    due("25 nowhere", x.should(0, 0, 0, 1), 1);
    for (int cell = 0; cell < 100; cell++) x.cell(0, cell, 0, cell % 10 < 6 ? 2 : 6);
    // 44, 54, 64 go to column 5; 45, 65 to 6; 46, 56, 66 to 5.
    due("25 two come there", x.should(45, 1, 0, 0), 1);
    due("25 two come there", x.should(45, 1, 0, 1), 4);
    due("25", x.should(46, 1, 0, 1), 8);
    due("25 none comes there", x.should(56, 1, 0, 0), 0);
    x.set(7, 4);
    due("25 high", x.should(55, 1, 1, 1), 4);
    due("25 low", x.should(55, 1, 0, 1), 4);
    due("25 high", x.should(45, 1, 1, 0), 0);
    x.drag(44, 4);
    due("25 by drags", x.should(45, 1, 0, 0), 1);
    due("25 by drags", x.should(45, 1, 0, 1), 5);
    int[][] bad = {{-1, 0, 0, 0}, {100, 0, 0, 0}, {0, -1, 0, 0}, {0, 25, 0, 0}, {0, 0, -1, 0}, {0, 0, 2, 0}, {0, 0, 0, -1}, {0, 0, 0, 2}};
    for (int[] b : bad) due("25 bad", x.should(b[0], b[1], b[2], b[3]), BAD);
    x.set(5, 0);
    due("25 none", x.should(45, 24, 1, 0), NONE);
    for (int[] b : bad) due("25 bad ahead of none", x.should(b[0], b[1], b[2], b[3]), BAD);
  }

  private static void heldAnswers() {
    SevenRings x = star();
    due("26 null", x.held(0, 0, 0), SevenRings.NULL);
    due("26 bad", x.held(-1, 0, 0), BAD);
    due("26 bad", x.held(4, 0, 0), BAD);
    due("26 bad", x.held(0, -1, 0), BAD);
    due("26 bad", x.held(0, 3, 0), BAD);
    due("26 bad ahead of index", x.held(0, 3, -1), BAD);
    due("26 null ahead of index", x.held(0, 0, -1), SevenRings.NULL);
    x.sheet(0, 1, 3);
    due("26 cast", x.held(0, 0, 0), SevenRings.CAST);
    due("26 cast", x.held(0, 2, -1), SevenRings.CAST);
    due("26 index", x.held(0, 1, -1), SevenRings.INDEX);
    due("26 index", x.held(0, 1, 2), SevenRings.INDEX);
    due("26 index", x.held(0, 1, Integer.MAX_VALUE), SevenRings.INDEX);
    due("26 index", x.held(0, 1, Integer.MIN_VALUE), SevenRings.INDEX);
    due("26 not", x.held(0, 1, 1), NOT);
    x.set(2, 3);
    due("26 index by H", x.held(0, 1, 0), SevenRings.INDEX);
  }

  private static int held(SevenRings x, int... cells) {
    x.sheet(3, 2, cells.length);
    for (int i = 0; i < cells.length; i++) x.item(3, 2, i, cells[i]);
    return x.held(3, 2, 0);
  }

  /** By hand: 4 CELLS straight on have 384, those of a knight's leap 128. */
  private static void heldCounts() {
    SevenRings x = star();
    x.set(2, 2);
    due("26 turned", held(x, 55, 56, 47), 4);
    due("26 straight", held(x, 55, 56, 57), 0);
    x = star();
    x.set(6, 3);
    // 77 (5 FAR) has 128; straight ones of PACE 3 (6 FAR) 64 and 32 from those of PACE 2: less.
    due("26 slantwise", held(x, 55, 77), 0);
    // 85 (6 FAR) has 128; slanting ones of PACE 2 (5 FAR) 64.
    due("26 straight", held(x, 55, 85), 0);
  }

  private static void heldLeavesOut() {
    SevenRings x = star();
    x.set(2, 2);
    x.ring(1, 0, 40);
    x.ring(2, 1, 1);
    x.piece(47, 1, 0, 0, 0);
    x.drag(57, 7);
    due("26 rings, tones, pieces, drags are left out", held(x, 55, 56, 47), 4);
    due("26 and stay", x.ways(), 0);
    due("26 and stay", x.ring(1, 0, 40), 140);
    due("26 and stay", x.count(2) + x.count(3), 2);
  }

  private static void knownFlights() {
    SevenRings x = star();
    x.set(2, 4);
    holds(x, true, 55, 45, 35, 25, 15);
    holds(x, false, 54, 44, 34, 24, 14);
    holds(x, false, 55, 55, 45, 35, 25);
    holds(x, false, 55, 95, 94, 93, 92);
    holds(x, false, 55, 45, 35, 25, 5);
    holds(x, false, 55, 45, 35, 25, -1);
    holds(x, false, 55, 45, 35, 25, 100);
    holds(x, false, 55, 145, 35, 25, 15);
    holds(x, false, 155, 45, 35, 25, 15);
    holds(x, false, 55, 45, 35, 25, 17);
    holds(x, true, 55, 56, 57, 67, 77);
    holds(x, false, 55, 56, 57, 67, 66);
    x.set(3, 0);
    holds(x, false, 55, 56, 57, 67, 77);
    x.set(3, 2);
    holds(x, true, 55, 56, 57, 67, 66);
    holds(x, false, 55, 56, 46, 47, 37);
    // No WAY goes round the edge from column 9 to column 0.
    holds(x, false, 55, 57, 59, 61, 63);
    x.set(3, 0);
    holds(x, false, 55, 35, 25, 15, 5);
    x.set(4, 1);
    holds(x, true, 55, 35, 25, 15, 5);
    holds(x, false, 55, 45, 35, 15, 5);
    x.set(1, 95);
    holds(x, true, 95, 65, 45, 25, 5);
    holds(x, false, 95, 65, 45, 35, 25);
    holds(x, false, 95, 65, 55, 45, 35);
    holds(x, false, 95, 65, 35, 5, 5);
    x.set(5, 9 + 4 + 4 + 4);
    holds(x, true, 95, 65, 45, 25, 5);
    x.set(5, 9 + 4 + 4 + 3);
    holds(x, false, 95, 65, 45, 25, 5);
    x.set(5, 60);
    x.set(3, 1);
    holds(x, true, 95, 65, 35, 33, 31);
    holds(x, false, 95, 65, 35, 33, 32);
    x.set(4, 0);
    holds(x, false, 95, 65, 35, 33, 31);
  }

  /** Each HOUR counts, the last one, too. */
  private static void knownFlightsOfSixHours() {
    SevenRings x = new SevenRings();
    x.set(1, 90);
    x.set(3, 0);
    holds(x, true, 90, 80, 70, 60, 50, 40, 30);
    holds(x, false, 90, 80, 70, 60, 50, 40, 31);
    holds(x, false, 90, 80, 70, 60, 50, 40, 100);
    holds(x, false, 91, 80, 70, 60, 50, 40, 30);
  }

  private static void holds(SevenRings x, boolean known, int... cells) {
    int got = held(x, cells);
    Check.holds("26 known " + known + " of " + java.util.Arrays.toString(cells) + ": " + got, known ? got >= 0 : got == NOT);
  }

  private static void image() {
    SevenRings x = star();
    due("28 none", x.restore(), NONE);
    x.ring(3, 0, 7);
    x.ring(3, 1, 2);
    x.cell(1, 7, 0, 3);
    x.cell(0, 8, 1, 4);
    x.cell(1, 99, 1, 7);
    x.depth(9, 6);
    x.piece(55, 3, 1, 2, 0);
    x.drag(22, 5);
    x.set(7, 1);
    long before = x.odds(22, 1);
    due("27", x.image(), 1);
    for (int what = 0; what < 8; what++) x.set(what, what == 2 ? 5 : 1);
    Check.rings(x, "1:1-;2:2-;3:3-;4:4-;5:5-;6:6-");
    x.cell(1, 7, 0, 2);
    x.cell(0, 8, 1, 1);
    x.cell(1, 99, 1, 1);
    x.depth(9, 1);
    x.clear();
    x.piece(1, 1, 0, 0, 0);
    x.piece(1, 1, 0, 0, 0);
    x.drag(3, 3);
    x.drag(3, 3);
    x.sheet(2, 1, 5);
    Check.write(x, "1:");
    due("28", x.restore(), 1);
    due("28 not the tape", x.type('9', 1), 3);
    due("28 not the tape", x.rings(), 1);
    due("28", x.restore(), 1);
    due("28 not sheets", x.drop(2), 5);
    due("28 odds", x.odds(22, 1), before);
    due("28", x.ring(3, 0, 1), 107);
    due("28", x.ring(3, 1, 0), 102);
    due("28", x.ring(1, 0, -1), 99);
    due("28", x.count(0) + x.count(1), 1);
    due("28", x.cell(1, 7, 0, 2), 3);
    due("28", x.cell(0, 8, 1, 1), 4);
    due("28", x.cell(1, 99, 1, 1), 7);
    due("28", x.depth(9, 1), 6);
    due("28", x.count(2), 1);
    due("28", x.count(3), 1);
    due("28", x.fits(0, 83), 1);
    int[] was = {55, 55, 1, 1, 0, 60, 0, 1};
    for (int what = 0; what < 8; what++) due("28 set " + what, x.set(what, what == 2 ? 2 : 0), was[what]);
    due("28 again", x.restore(), 1);
    due("28 again", x.set(1, 0), 55);
    due("27 another one", x.image(), 1);
    x.set(1, 7);
    due("28 the later one", x.restore(), 1);
    due("28 the later one", x.set(1, 0), 0);
    imageOfPiecesAndDrags();
  }

  /** PIECES and DRAGS that came behind the IMAGE leave nothing of theirs in those that come back. */
  private static void imageOfPiecesAndDrags() {
    SevenRings x = star();
    x.piece(45, 2, 0, 2, 0);
    x.drag(45, 4);
    // 45 by 4 and 4; 35, 44, 46, 54 and 56 by 1 and 8.
    due("18", x.odds(45, 0), 2);
    due("18", x.odds(45, 1), 7);
    x.image();
    x.clear();
    x.piece(77, 2, 1, 1, 9);
    x.drag(77, 7);
    due("18 cold", x.odds(45, 0), NONE);
    x.restore();
    due("28 the drag", x.next(), 35);
    due("28 the odds", x.odds(45, 0), 2);
    due("28 the odds", x.odds(45, 1), 7);
    due("28 the piece", x.fits(0, 45), 4);
    x.cell(0, 45, 1, 0);
    x.cell(1, 45, 1, 0);
    due("28 what it needs", x.fits(0, 45), 4);
    x.image();
    x.set(5, 1);
    due("18", x.odds(35, 0), 0);
    x.restore();
    due("28 ways", x.ways(), 24);
    due("28 ways", x.odds(35, 0), 1);
  }
}
