/** Section 3 of the document but for its TEXTS, sentence by sentence: each case at its edge. Promises 24 to 28. */
public final class NextEdgesTest {
  private static final int BAD = SevenRings.BAD, NOT = SevenRings.NOT, NONE = SevenRings.NONE, INDEX = SevenRings.INDEX;

  public static void main(String[] args) {
    nextByOdds();
    nextByDepth();
    nextIsNotDragged();
    nextOfLikeOnes();
    nextInTheCorners();
    shouldAtItsBounds();
    shouldTogether();
    knownByStart();
    knownByTurns();
    knownBySlowing();
    knownByFuel();
    knownByCells();
    knownAtEachHour();
    heldIsGreaterAlone();
    heldByFars();
    heldByTheLastHour();
    heldLeavesOutAll();
    heldByLanes();
    imageOfNothing();
    imageOfAll();
    imageTwice();
    imageKeepsNoSheetsNoTape();
    Check.end();
  }

  private static void due(String call, long got, long want) { Check.due(call, got, want); }

  /** One WAY alone: from 56 to 57 (times 2) and on to 58 and 59 (times 1 each) as G lets. */
  private static SevenRings one(int glide) {
    SevenRings x = new SevenRings();
    x.set(0, 57);
    x.set(1, 56);
    x.set(2, 1);
    x.set(6, glide);
    x.ring(1, 0, 0);
    return x;
  }

  private static void nextByOdds() {
    SevenRings x = one(2);
    due("24 the greatest", x.next(), 57);
    x.piece(59, 1, 0, 0, 0);
    due("24 57 has none", x.next(), 59);
    x.piece(58, 1, 0, 0, 0);
    // 58: 1 by 1 and 4, 59: 1 by 4 and 1.
    due("24 like ones", x.next(), 58);
  }

  /** "(1 .. 9 of each CELL; 1 at first; sums by DEPTH, as fractions)": 57 has 2, 58 and 59 have 1. */
  private static void nextByDepth() {
    SevenRings x = one(2);
    x.depth(57, 2);
    due("24 like ones", x.next(), 57);
    x.depth(57, 3);
    due("24 two by 3 is less than one", x.next(), 58);
    for (int cell = 58; cell <= 59; cell++) x.depth(cell, 2);
    due("24 two by 3 is more than one by 2", x.next(), 57);
    x.depth(57, 9);
    x.depth(58, 9);
    x.depth(59, 5);
    due("24 two by 9 is more than one by 5", x.next(), 57);
    x.depth(59, 4);
    due("24 two by 9 is less than one by 4", x.next(), 59);
    x.depth(0, 1);
    due("24 what has no ODDS is no matter", x.next(), 59);
    x.depth(57, 1);
    due("24 at first", x.next(), 57);
  }

  private static void nextIsNotDragged() {
    SevenRings x = one(2);
    due("17", x.drag(57, 1), 0);
    due("24 not the greatest", x.next(), 58);
    x.drag(58, 1);
    due("24", x.next(), 59);
    x.drag(0, 7);
    due("24", x.next(), 59);
    x.drag(59, 1);
    due("24 all were dragged", x.next(), NONE);
    x.clear();
    due("24 none is dragged", x.next(), 57);
    x.piece(0, 1, 0, 0, 0);
    due("24 no ODDS", x.next(), NONE);
  }

  /** "of like ones the least". */
  private static void nextOfLikeOnes() {
    SevenRings x = new SevenRings();
    x.set(1, 55);
    x.set(2, 1);
    x.set(6, 0);
    int[] inOrder = {22, 25, 28, 33, 35};
    for (int i = 0; i < 4; i++) {
      due("24 the least", x.next(), inOrder[i]);
      x.drag(inOrder[i], 1);
    }
    due("24 the least", x.next(), inOrder[4]);
  }

  private static void nextInTheCorners() {
    for (int corner : new int[] {0, 9, 90, 99}) {
      SevenRings x = new SevenRings();
      int start = corner + (corner < 50 ? 10 : -10);
      x.set(0, corner);
      x.set(1, start);
      x.set(2, 1);
      x.ring(1, 0, 0);
      due("24 a corner", x.next(), corner);
      due("19 a corner", x.where(corner / 10), 1 << corner % 10);
      due("18 a corner", x.odds(corner, 1), 1);
    }
  }

  /** "SHOULD of a shore (a CELL) and a MONTH n": 57, 58, 59 have 2, 1, 1 of 4. */
  private static void shouldAtItsBounds() {
    SevenRings x = one(2);
    due("25 behind none", x.should(57, 0, 0, 0), 1);
    due("25 behind none", x.should(57, 0, 0, 1), 2);
    due("25 behind none, high", x.should(58, 0, 1, 1), 4);
    due("25 never there", x.should(0, 24, 1, 0), 0);
    due("25 never there", x.should(0, 24, 1, 1), 1);
    for (int[] b : new int[][] {{-1, 0, 0, 0}, {100, 0, 0, 0}, {57, -1, 0, 0}, {57, 25, 0, 0}, {57, 0, -1, 0}, {57, 0, 2, 0},
        {57, 0, 0, -1}, {57, 0, 0, 2}}) {
      due("25 bad", x.should(b[0], b[1], b[2], b[3]), BAD);
    }
    x.set(7, 3);
    due("25 by the WIND", x.should(68, 1, 1, 1), 2);
    due("25 not high", x.should(57, 1, 0, 1), 2);
    due("25 not high", x.should(57, 24, 0, 1), 2);
    x.ring(1, 0, 40);
    due("25 none", x.should(57, 0, 0, 0), NONE);
    due("25 none", x.should(57, 0, 0, 1), NONE);
  }

  /** What comes to one CELL from several is added; all of it is 1 by 1. */
  private static void shouldTogether() {
    SevenRings x = one(2);
    x.set(7, 2);
    // By the WIND 57 comes to 58, 58 and 59 to 59.
    due("25 from one", x.should(58, 1, 1, 1), 2);
    due("25 from two", x.should(59, 1, 1, 1), 2);
    due("25 from all", x.should(59, 2, 1, 0), 1);
    due("25 from all", x.should(59, 2, 1, 1), 1);
    due("25 from all", x.should(59, 24, 1, 1), 1);
    x.drag(57, 4);
    // 57 by 2 and 4, 58 and 59 by 8 each.
    due("25 by DRAGS", x.should(58, 1, 1, 1), 3);
    due("25 by DRAGS", x.should(59, 1, 1, 0), 2);
    x.piece(57, 1, 0, 0, 0);
    // 57 by 8 and 4, 58 by 8 and 1.
    due("25 by PIECES", x.should(58, 1, 1, 0), 4);
    due("25 by PIECES", x.should(58, 1, 1, 1), 5);
  }

  private static SevenRings with(int... pairs) {
    SevenRings x = new SevenRings();
    for (int i = 0; i < pairs.length; i += 2) x.set(pairs[i], pairs[i + 1]);
    return x;
  }

  private static int held(SevenRings x, int... cells) {
    x.sheet(0, 2, cells.length);
    for (int i = 0; i < cells.length; i++) x.item(0, 2, i, cells[i]);
    return x.held(0, 2, 0);
  }

  private static void known(boolean so, SevenRings x, int... cells) {
    int got = held(x, cells);
    Check.holds("26 known " + so + ": " + java.util.Arrays.toString(cells) + " answered " + got, so ? got >= 0 : got == NOT);
  }

  /** "by THE START". */
  private static void knownByStart() {
    known(true, with(1, 55, 2, 1), 55, 56);
    known(false, with(1, 54, 2, 1), 55, 56);
    known(false, with(1, 56, 2, 1), 55, 56);
    known(true, with(1, 0, 2, 1), 0, 1);
    known(true, with(1, 99, 2, 1), 99, 66);
    known(false, with(1, 99, 2, 1), 99, 55);
    known(false, with(1, 55, 2, 1), 55, 55);
  }

  /** "T": 0, 1, 2 turns, and one more than is let. */
  private static void knownByTurns() {
    int[][] flights = {{55, 54, 53, 52}, {55, 54, 53, 43}, {55, 54, 44, 45}, {55, 45, 55, 45}};
    int[] turns = {0, 1, 2, 2};
    for (int t = 0; t <= 2; t++) {
      for (int i = 0; i < flights.length; i++) known(turns[i] <= t, with(1, 55, 2, 3, 3, t), flights[i]);
    }
    known(true, with(1, 55, 2, 4, 3, 2), 55, 54, 44, 45, 46);
    known(false, with(1, 55, 2, 4, 3, 2), 55, 54, 44, 45, 55);
  }

  /** "S": SLOWED at no HOUR, once, twice, by two at once, or the other way. */
  private static void knownBySlowing() {
    int[][] flights = {{50, 53, 56, 59}, {50, 53, 56, 58}, {50, 53, 55, 57}, {50, 52, 53, 54}, {50, 53, 55, 45}};
    for (int s = 0; s <= 1; s++) {
      for (int i = 0; i < flights.length; i++) known(i == 0 || s == 1 && i < 4, with(1, 50, 2, 3, 4, s), flights[i]);
      known(false, with(1, 50, 2, 3, 4, s), 50, 53, 55, 56);
      known(false, with(1, 50, 2, 3, 4, s), 50, 53, 56, 57);
      known(false, with(1, 50, 2, 3, 4, s), 50, 52, 54, 57);
      known(s == 1, with(1, 50, 2, 3, 4, s), 50, 53, 55, 35);
    }
  }

  /** "FUEL": just as much as it needs, and one less. */
  private static void knownByFuel() {
    int[][] flights = {{50, 51, 52, 53}, {50, 52, 54, 56}, {50, 53, 56, 59}, {50, 53, 55, 57}, {50, 52, 54, 55}};
    int[] needs = {3, 12, 27, 17, 9};
    for (int i = 0; i < flights.length; i++) {
      known(true, with(1, 50, 2, 3, 4, 1, 5, needs[i]), flights[i]);
      known(false, with(1, 50, 2, 3, 4, 1, 5, needs[i] - 1), flights[i]);
      known(false, with(1, 50, 2, 3, 4, 1, 5, 0), flights[i]);
      known(true, with(1, 50, 2, 3, 4, 1, 5, 60), flights[i]);
    }
  }

  /** "a row of CELLS": what is no CELL is in no flight, at no HOUR. */
  private static void knownByCells() {
    int[] good = {55, 54, 53, 52};
    for (int hour = 0; hour <= 3; hour++) {
      for (int v : new int[] {-1, 100, 101, 155, 256 + good[hour], -100, Integer.MAX_VALUE, Integer.MIN_VALUE}) {
        int[] cells = good.clone();
        cells[hour] = v;
        known(false, with(1, 55, 2, 3), cells);
      }
    }
    // No way round: from COLUMN 9 to COLUMN 0 of the next ROW, from the last ROW to the first.
    known(false, with(1, 59, 2, 1), 59, 60);
    known(false, with(1, 59, 2, 1), 59, 50);
    known(false, with(1, 95, 2, 1), 95, 5);
    known(false, with(1, 99, 2, 1), 99, 100);
    known(false, with(1, 0, 2, 1), 0, -1);
    known(false, with(1, 0, 2, 1), 0, -10);
  }

  /** "for HOURS 0 .. H": each HOUR counts, for each H; those behind are not looked at. */
  private static void knownAtEachHour() {
    int[] way = {90, 80, 70, 60, 50, 40, 30};
    for (int h = 1; h <= 6; h++) {
      known(true, with(1, 90, 2, h, 3, 0), way);
      for (int hour = 0; hour <= 6; hour++) {
        int[] cells = way.clone();
        // A knight's leap off is no leg of a WAY.
        cells[hour] += 2;
        known(hour > h, with(1, 90, 2, h, 3, 0), cells);
      }
      SevenRings x = with(1, 90, 2, h, 3, 0);
      x.sheet(1, 1, h);
      due("26 an item too few", x.held(1, 1, 0), INDEX);
      x.sheet(1, 1, 16);
      due("26 the last place", x.held(1, 1, 15 - h), NOT);
      due("26 one behind it", x.held(1, 1, 16 - h), INDEX);
      x.sheet(1, 1, h + 1);
      due("26 just so many", x.held(1, 1, 0), NOT);
      due("26 ahead of it", x.held(1, 1, -1), INDEX);
    }
  }

  /** "how many CELLS have greater ODDS than that": like ones don't count. Seen from 55, one HOUR, no gliding. */
  private static void heldIsGreaterAlone() {
    // At PACE 1 all eight are 2 FAR.
    for (int cell : new int[] {45, 46, 56, 66, 65, 64, 54, 44}) due("26 like ones", held(with(0, 55, 1, 55, 2, 1, 6, 0), 55, cell), 0);
    // PACE 2: straight ones are 4 FAR, slanting ones 5; straight ones of PACE 3 are 6 FAR.
    for (int cell : new int[] {35, 57, 75, 53}) due("26 like ones", held(with(0, 55, 1, 55, 2, 1, 6, 0), 55, cell), 0);
    for (int cell : new int[] {37, 77, 73, 33}) due("26 like ones", held(with(0, 55, 1, 55, 2, 1, 6, 0), 55, cell), 0);
    // From 52, seen from 55, 53, 43, 34, 63 and 74 are 4 FAR, none is 3 or 5: 128 each; by gliding 34 and 74 have 64 more.
    for (int cell : new int[] {53, 43, 63}) due("26 two have more", held(with(0, 55, 1, 52, 2, 1, 6, 1), 52, cell), 2);
    for (int cell : new int[] {34, 74}) due("26 none has more", held(with(0, 55, 1, 52, 2, 1, 6, 1), 52, cell), 0);
    for (int cell : new int[] {53, 34}) due("26 none has more without gliding", held(with(0, 55, 1, 52, 2, 1, 6, 0), 52, cell), 0);
  }

  /** "its RINGS (how FAR it was at each HOUR 1 .. H, no TONES) in place of those told". */
  private static void heldByFars() {
    SevenRings x = with(0, 55, 1, 55, 2, 2);
    // 47 by 56: a turn, of weight 8 and 4: less than straight ones, as FAR.
    due("26 by a turn", held(x, 55, 56, 47), 4);
    x.ring(1, 0, 40);
    x.ring(1, 1, 1);
    x.ring(2, 0, 40);
    x.ring(2, 1, 1);
    due("26 those told are no matter", held(x, 55, 56, 47), 4);
    due("7 those told are told", x.ways(), 0);
    due("20 those told are told", x.count(0) + x.count(1), 4);
    // Each HOUR's RING is taken away, the first and the last alike.
    for (int hour = 1; hour <= 6; hour++) {
      for (int what = 0; what <= 1; what++) {
        x = with(3, 0);
        x.ring(hour, what, what == 0 ? 40 : 1);
        due("7 it lets none", x.ways(), 0);
        due("26 it is no matter", held(x, 0, 1, 2, 3, 4, 5, 6), 0);
      }
    }
    // Seen from 55 two CELLS have more than 53 (above); seen from 53 itself it is 0 FAR, and nothing else is.
    due("26 by THE EYE", held(with(0, 55, 1, 52, 2, 1, 6, 1), 52, 53), 2);
    due("26 by THE EYE", held(with(0, 53, 1, 52, 2, 1, 6, 1), 52, 53), 0);
  }

  /**
   * Of six HOURS the sixth counts, too. At PACE 1 from CELL 0, seen from there: turned down at last 15 is 10 FAR, where
   * straight on 6 would be 12: only this one and 51 by COLUMN 0 are left.
   */
  private static void heldByTheLastHour() {
    due("26 turned at last", held(with(5, 6, 6, 0), 0, 1, 2, 3, 4, 5, 15), 0);
    due("26 its mirror", held(with(5, 6, 6, 0), 0, 10, 20, 30, 40, 50, 51), 0);
    // Of five HOURS, 1, 2, 3, 4 and then 14 is 8 FAR, where straight on 5 would be 10.
    due("26 turned at last", held(with(2, 5, 5, 6, 6, 0), 0, 1, 2, 3, 4, 14), 0);
  }

  /** "PIECES and DRAGS left out". */
  private static void heldLeavesOutAll() {
    SevenRings x = with(0, 55, 1, 55, 2, 2);
    for (int i = 0; i < 4; i++) {
      x.piece(i % 2 == 0 ? 47 : 0, 1, 0, 0, 0);
      x.drag(57, 7);
    }
    due("26", held(x, 55, 56, 47), 4);
    due("20 they stay", x.count(2) + x.count(3), 8);
    due("18 they stay", x.odds(47, 0), NONE);
  }

  private static void heldByLanes() {
    SevenRings x = with(1, 98, 2, 1);
    for (int lane = 0; lane < 3; lane++) {
      x.sheet(lane, lane, 2);
      x.item(lane, lane, 0, 98);
      x.item(lane, lane, 1, 99);
      Check.holds("26 its LANE", x.held(lane, lane, 0) >= 0);
      for (int other = 0; other < 3; other++) if (other != lane) due("26 another LANE", x.held(lane, other, 0), SevenRings.CAST);
      due("26 no LANE", x.held(lane, 3, 0), BAD);
    }
    due("26 nothing", x.held(3, 0, 0), SevenRings.NULL);
  }

  /** "NONE: there is none", until there is one. */
  private static void imageOfNothing() {
    SevenRings x = new SevenRings();
    due("28", x.restore(), NONE);
    x.set(1, 5);
    due("28", x.restore(), NONE);
    due("28 nothing came back", x.set(1, 6), 5);
    x = new SevenRings();
    due("27", x.image(), 1);
    x.set(1, 5);
    x.piece(0, 1, 0, 0, 0);
    x.drag(0, 1);
    due("28", x.restore(), 1);
    due("28 as it was", x.set(1, 0), 0);
    due("28 as it was", x.clear(), 0);
  }

  /** "All but SHEETS, THE TAPE": of each kind the first and the last. */
  private static void imageOfAll() {
    SevenRings x = new SevenRings();
    all(x, 0);
    x.image();
    all(x, 1);
    x.piece(9, 9, 0, 9, 9);
    x.drag(9, 7);
    due("28", x.restore(), 1);
    int[] settings = {50, 51, 4, 2, 0, 30, 2, 4};
    for (int what = 0; what < 8; what++) due("28 set " + what, x.set(what, settings[what]), settings[what]);
    for (int hour = 1; hour <= 6; hour += 5) {
      due("28 HOW FAR", x.ring(hour, 0, -1), 110 + hour);
      due("28 TONE", x.ring(hour, 1, 0), 101);
    }
    for (int season = 0; season < 2; season++) {
      for (int cell = 0; cell < 100; cell += 99) {
        due("28 CURRENT", x.cell(season, cell, 0, 8), 3);
        due("28 WARMTH", x.cell(season, cell, 1, 0), 4);
      }
    }
    for (int cell = 0; cell < 100; cell += 99) due("28 DEPTH", x.depth(cell, 1), 5);
    due("28 PIECES", x.count(2), 2);
    due("28 DRAGS", x.count(3), 2);
    due("28 the PIECE of no AGE", x.fits(0, 40), 4);
    due("28 the PIECE of an AGE", x.fits(1, 41), 0);
    due("3 by THE EYE", x.far(50), 0);
  }

  /** Tells some of each kind in one of two manners. */
  private static void all(SevenRings x, int manner) {
    x.clear();
    int[] settings = {50, 51, 4, 2, 0, 30, 2, 4};
    for (int what = 0; what < 8; what++) x.set(what, settings[what] + manner * (what == 3 ? -1 : 1));
    for (int hour = 1; hour <= 6; hour += 5) {
      x.ring(hour, 0, 10 + hour + manner);
      x.ring(hour, 1, 1 + manner);
    }
    for (int season = 0; season < 2; season++) {
      for (int cell = 0; cell < 100; cell += 99) {
        x.cell(season, cell, 0, 3 + manner);
        x.cell(season, cell, 1, 4 + manner);
      }
    }
    for (int cell = 0; cell < 100; cell += 99) x.depth(cell, 5 + manner);
    x.piece(40 + manner, 1, 0, 0, 9);
    x.piece(41 + manner, 1 + manner, manner, 1 - manner, 9);
    x.drag(50 + manner, 3);
    x.drag(60 + manner, 5);
  }

  /** A later IMAGE takes the place of the one ahead; one can come back more than once. */
  private static void imageTwice() {
    SevenRings x = new SevenRings();
    for (int i = 0; i < 3; i++) {
      x.set(1, 10 + i);
      due("27", x.image(), 1);
      x.set(1, 99);
      for (int again = 0; again < 2; again++) {
        due("28", x.restore(), 1);
        due("28 the last one", x.set(1, 50), 10 + i);
      }
    }
    // What comes back is a row of its own: what is told behind it leaves the IMAGE alone.
    x.restore();
    x.cell(0, 0, 0, 1);
    x.depth(0, 9);
    x.ring(1, 0, 1);
    x.piece(0, 1, 0, 0, 0);
    x.restore();
    due("28", x.cell(0, 0, 0, 1), 8);
    due("28", x.depth(0, 9), 1);
    due("28", x.ring(1, 0, 1), 99);
    due("28", x.count(2), 0);
  }

  private static void imageKeepsNoSheetsNoTape() {
    SevenRings x = new SevenRings();
    x.sheet(0, 0, 3);
    x.sheet(1, 1, 4);
    Check.write(x, "1:2;");
    x.image();
    x.drop(0);
    x.sheet(1, 2, 5);
    x.sheet(2, 2, 6);
    x.type(Check.word("3:4"), 3);
    due("28", x.restore(), 1);
    due("28 a SHEET stays dropped", x.drop(0), SevenRings.NULL);
    due("28 a SHEET stays", x.item(1, 2, 4, 1), 1);
    due("28 a SHEET stays", x.drop(2), 6);
    due("28 THE TAPE stays", x.rings(), 2);
    due("28 THE TAPE stays", x.ring(3, 0, 0), 104);
    x.image();
    x.restore();
    due("28 THE TAPE stays empty", x.type(' ', 1), 1);
  }
}
