/** Section 1 of the document, sentence by sentence: each case at its edge. Promises 1 to 4, 7 to 10 and 18. */
public final class WayEdgesTest {
  private static final int BAD = SevenRings.BAD, NONE = SevenRings.NONE;
  private static final int EYE = 0, START = 1, H = 2, T = 3, S = 4, FUEL = 5, G = 6;

  public static void main(String[] args) {
    nothingIsTold();
    howFar();
    wholeRootIsCut();
    oneHour();
    sixHours();
    paces();
    beyondCells();
    turns();
    turnsBack();
    slowed();
    bothAtOneHour();
    fuel();
    fuelOfSixHours();
    ringsBeyondH();
    justSoOneOffTwoOff();
    farthestRings();
    tones();
    toneOfTheHourAhead();
    greatestAndLeastWeight();
    waysOfWeightZero();
    theEnd();
    theLastCourse();
    mayFollows();
    Check.end();
  }

  private static void due(String call, long got, long want) { Check.due(call, got, want); }

  /** An object with what is set as pairs of what and v. */
  private static SevenRings with(int... pairs) {
    SevenRings x = new SevenRings();
    for (int i = 0; i < pairs.length; i += 2) x.set(pairs[i], pairs[i + 1]);
    return x;
  }

  /** The number of the WAY by these CELLS, or -1; WAYS are told from the first on. */
  private static int number(SevenRings x, int... cells) {
    int all = x.ways();
    next:
    for (int i = 0; i < all; i++) {
      for (int hour = cells.length - 1; hour >= 0; hour--) if (x.way(i, hour) != cells[hour]) continue next;
      return i;
    }
    return -1;
  }

  private static void goes(SevenRings x, int... cells) {
    Check.holds("7 goes " + java.util.Arrays.toString(cells), number(x, cells) >= 0);
  }

  private static void goesNot(SevenRings x, int... cells) {
    Check.holds("7 goes not " + java.util.Arrays.toString(cells), number(x, cells) < 0);
  }

  /** THE EYE is over a CELL, and the last RING is 0: only WAYS there are left, each of twice its WEIGHT. */
  private static SevenRings to(int cell, SevenRings x) {
    int last = x.set(H, 1);
    x.set(H, last);
    x.set(EYE, cell);
    x.ring(last, 0, 0);
    return x;
  }

  /** Promise 1, and "at first" of sections 1 to 3: as many objects as keep each below 512 calls. */
  private static void nothingIsTold() {
    SevenRings x = new SevenRings();
    int[] first = {0, 0, 6, 1, 0, 60, 1, 8};
    for (int what = 0; what < 8; what++) due("1 set " + what, x.set(what, first[what]), first[what]);
    for (int hour = 1; hour <= 6; hour++) {
      due("1 not told", x.ring(hour, 0, -1), 99);
      due("1 no tone", x.ring(hour, 1, 0), 100);
    }
    for (int cell = 0; cell < 100; cell++) due("1 depth", x.depth(cell, 1), 1);
    for (int what = 0; what < 4; what++) due("1 none", x.count(what), 0);
    for (int sheet = 0; sheet < 4; sheet++) due("1 nothing", x.drop(sheet), SevenRings.NULL);
    for (int piece = 0; piece < 4; piece++) due("1 no piece", x.fits(piece, 0), BAD);
    due("1 no image", x.restore(), NONE);
    due("1 the tape is empty", x.type('1', 1), 1);
    for (int season = 0; season < 2; season++) {
      x = new SevenRings();
      for (int cell = 0; cell < 100; cell++) {
        due("1 no current", x.cell(season, cell, 0, 8), 8);
        due("1 cold", x.cell(season, cell, 1, 0), 0);
      }
    }
    // Each object has rows of its own.
    SevenRings other = new SevenRings();
    x.set(EYE, 99);
    x.cell(0, 0, 1, 9);
    x.sheet(0, 0, 3);
    x.image();
    due("1 another object", other.set(EYE, 0), 0);
    due("1 another object", other.cell(0, 0, 1, 0), 0);
    due("1 another object", other.drop(0), SevenRings.NULL);
    due("1 another object", other.restore(), NONE);
  }

  /** "How FAR a CELL is": nearest, farthest, from each corner. */
  private static void howFar() {
    for (int eye : new int[] {0, 9, 90, 99, 55}) {
      SevenRings x = with(EYE, eye);
      due("3 itself", x.far(eye), 0);
      due("3 the corner across", x.far(99 - eye), eye == 55 ? 2 : 25);
    }
    SevenRings x = new SevenRings();
    int[][] due = {{1, 2}, {10, 2}, {11, 2}, {2, 4}, {12, 4}, {22, 5}, {13, 6}, {34, 10}, {35, 11}, {9, 18}, {90, 18}, {98, 24}, {99, 25}};
    for (int[] d : due) due("3 far " + d[0], x.far(d[0]), d[1]);
    due("3 the last", x.far(99), 25);
    due("3 behind the last", x.far(100), BAD);
    due("3 ahead of the first", x.far(-1), BAD);
  }

  /** "the whole root (cut)", of all CELLS from all CELLS. */
  private static void wholeRootIsCut() {
    for (int eye = 0; eye < 100; eye++) {
      SevenRings x = with(EYE, eye);
      for (int cell = 0; cell < 100; cell++) {
        int rows = cell / 10 - eye / 10;
        int columns = cell % 10 - eye % 10;
        int square = 4 * (rows * rows + columns * columns);
        int got = x.far(cell);
        Check.holds("3 far of " + cell + " from " + eye, got >= 0 && got * got <= square && (got + 1) * (got + 1) > square);
      }
    }
  }

  /** H 1, the least: there is no HOUR to TURN or be SLOWED at. */
  private static void oneHour() {
    SevenRings x = with(START, 55, H, 1, T, 2, S, 1);
    due("7", x.ways(), 24);
    due("8", x.weight(), 24 * 32);
    for (int i = 0; i < 24; i++) {
      due("9 no turn", x.way(i, -2), 0);
      due("9 not slowed", x.way(i, -3), 0);
    }
    due("9 the last HOUR", x.way(23, 1), 22);
    due("9 behind it", x.way(23, 2), BAD);
    due("10 the last HOUR", x.may(1, 2), 292);
    due("10 behind it", x.may(2, 2), BAD);
    x.sheet(0, 0, 2);
    due("32 two items", x.film(0, 0, 0, 0), 2);
    due("26 two items", x.held(0, 0, 0), 0);
    due("26 two items, not one", x.held(0, 0, 1), SevenRings.INDEX);
  }

  /** H 6, the most: straight on from a corner only PACE 1 is inside. */
  private static void sixHours() {
    SevenRings x = with(T, 0);
    due("7", x.ways(), 3);
    due("8", x.weight(), 96);
    int[] ends = {6, 66, 60};
    for (int i = 0; i < 3; i++) due("9 the last HOUR", x.way(i, 6), ends[i]);
    due("9 behind it", x.way(0, 7), BAD);
    due("10 the last HOUR", x.may(6, 6), 65);
    due("10 behind it", x.may(7, 6), BAD);
    x.sheet(0, 0, 7);
    due("32 seven items", x.film(2, 0, 0, 0), 7);
    due("32 seven items, not six", x.film(2, 0, 0, 1), SevenRings.INDEX);
    x.sheet(0, 0, 6);
    due("32 seven items, not six", x.film(2, 0, 0, 0), SevenRings.INDEX);
  }

  /** "it goes PACE (1 .. 3) times by its COURSE": in order of COURSE, then PACE. */
  private static void paces() {
    SevenRings x = with(START, 44, H, 1);
    int[] due = {34, 24, 14, 35, 26, 17, 45, 46, 47, 55, 66, 77, 54, 64, 74, 53, 62, 71, 43, 42, 41, 33, 22, 11};
    for (int i = 0; i < 24; i++) due("9 WAY " + i, x.way(i, 1), due[i]);
    due("9 no more", x.way(24, 1), NONE);
  }

  /** "beyond CELLS there is no way": as many as are inside, from each CELL. */
  private static void beyondCells() {
    SevenRings x = with(H, 1);
    for (int start = 0; start < 100; start++) {
      x.set(START, start);
      int row = start / 10;
      int column = start % 10;
      int inside = 0;
      for (int pace = 1; pace <= 3; pace++) {
        boolean up = row >= pace;
        boolean down = row + pace <= 9;
        boolean left = column >= pace;
        boolean right = column + pace <= 9;
        boolean[] each = {up, up && right, right, down && right, down, down && left, left, up && left};
        for (boolean b : each) if (b) inside++;
      }
      due("7 from " + start, x.ways(), inside);
    }
    x = with(START, 39, H, 1);
    goesNot(x, 39, 40);
    goesNot(x, 39, 30);
    x = with(START, 30, H, 1);
    goesNot(x, 30, 29);
    goesNot(x, 30, 39);
    x = with(START, 5, H, 1);
    goesNot(x, 5, 95);
    // A way that would come back inside is none if an HOUR of it is beyond.
    x = with(START, 8, H, 2);
    goesNot(x, 8, 10, 8);
    goes(x, 8, 9, 8);
  }

  /** "T turns at most: 0 .. 2": no more, though there are five HOURS to turn at. */
  private static void turns() {
    for (int t = 0; t <= 2; t++) {
      SevenRings x = with(START, 44, H, 4, T, t, FUEL, 4);
      int[] by = new int[4];
      int all = x.ways();
      for (int i = 0; i < all && i < 480; i++) by[x.way(i, -2)]++;
      Check.holds("7 so many turns", by[t] > 0 && (t == 2 || by[t + 1] == 0) && by[3] == 0);
      Check.holds("7 fewer, too", by[0] > 0);
      due("9 weight of the first", x.way(0, -1), 32);
    }
    goes(to(37, with(START, 55, H, 4, T, 2, FUEL, 4)), 55, 45, 35, 36, 37);
    goes(to(66, with(START, 55, H, 4, T, 2, FUEL, 4)), 55, 45, 46, 56, 66);
    goesNot(to(65, with(START, 55, H, 4, T, 2, FUEL, 4)), 55, 45, 46, 56, 65);
    goesNot(to(66, with(START, 55, H, 4, T, 1, FUEL, 4)), 55, 45, 46, 56, 66);
    goesNot(to(37, with(START, 55, H, 4, T, 0, FUEL, 4)), 55, 45, 35, 36, 37);
  }

  /** A turn back to the COURSE ahead is a turn like any; straight back is let, too. */
  private static void turnsBack() {
    SevenRings x = to(36, with(START, 55, H, 3, T, 2, FUEL, 3));
    int i = number(x, 55, 45, 46, 36);
    due("9 two turns", x.way(i, -2), 2);
    due("9 its weight", x.way(i, -1), 2 * 2);
    goesNot(to(36, with(START, 55, H, 3, T, 1, FUEL, 3)), 55, 45, 46, 36);
    x = to(45, with(START, 55, H, 3, T, 2, FUEL, 3));
    i = number(x, 55, 45, 55, 45);
    due("9 back and forth", x.way(i, -2), 2);
    x = to(55, with(START, 55, H, 2, T, 1));
    i = number(x, 55, 25, 55);
    due("9 back at PACE 3", x.way(i, -2), 1);
    due("7 back at each PACE", x.ways(), 24);
  }

  /** "once in all be SLOWED (from PACE 2 or 3 to one less; only if S is 1)". */
  private static void slowed() {
    for (int s = 0; s <= 1; s++) {
      SevenRings x = with(START, 50, H, 3, T, 0, S, s);
      int bySlowing = s == 1 ? 1 : 0;
      Check.due("7 PACE 3", number(x, 50, 53, 56, 59) >= 0 ? 1 : 0, 1);
      Check.due("7 3 to 2 late", number(x, 50, 53, 56, 58) >= 0 ? 1 : 0, bySlowing);
      Check.due("7 3 to 2 soon", number(x, 50, 53, 55, 57) >= 0 ? 1 : 0, bySlowing);
      Check.due("7 2 to 1 late", number(x, 50, 52, 54, 55) >= 0 ? 1 : 0, bySlowing);
      Check.due("7 2 to 1 soon", number(x, 50, 52, 53, 54) >= 0 ? 1 : 0, bySlowing);
      goesNot(x, 50, 53, 55, 56);
      goesNot(x, 50, 53, 54, 55);
      goesNot(x, 50, 51, 51, 51);
      goesNot(x, 50, 51, 53, 55);
      goesNot(x, 50, 52, 53, 55);
      goesNot(x, 50, 52, 54, 57);
    }
    SevenRings x = with(START, 50, H, 3, T, 0, S, 1, FUEL, 3);
    for (int i = 0; i < x.ways(); i++) due("9 PACE 1 is never SLOWED", x.way(i, -3), 0);
    x = with(START, 50, H, 3, T, 0, S, 1);
    int i = number(x, 50, 52, 53, 54);
    due("9 SLOWED", x.way(i, -3), 1);
    due("9 its weight", x.way(i, -1), 16);
  }

  /** "both at one HOUR, too". */
  private static void bothAtOneHour() {
    SevenRings x = with(START, 55, H, 2, T, 1, S, 1);
    int i = number(x, 55, 35, 36);
    due("9 turned", x.way(i, -2), 1);
    due("9 and SLOWED", x.way(i, -3), 1);
    due("9 its weight", x.way(i, -1), 4);
    due("9 behind turned alone", x.way(i - 1, 2), 37);
    goesNot(to(36, with(START, 55, H, 2, T, 0, S, 1)), 55, 35, 36);
    goesNot(to(36, with(START, 55, H, 2, T, 1, S, 0)), 55, 35, 36);
    goesNot(to(38, with(START, 55, H, 2, T, 1, S, 1)), 55, 35, 38);
  }

  /** "FUEL is less by PACE squared for each HOUR gone; a WAY must not need more": just as much is enough. */
  private static void fuel() {
    SevenRings x = with(START, 55, H, 1);
    int[] ways = {0, 8, 8, 8, 16, 16, 16, 16, 16, 24, 24};
    for (int fuel = 0; fuel <= 10; fuel++) {
      x.set(FUEL, fuel);
      due("7 by FUEL " + fuel, x.ways(), ways[fuel]);
    }
    x.set(FUEL, 60);
    due("7 by all FUEL", x.ways(), 24);
    // SLOWED at HOUR 1 or 2: PACE 3, 2, 2 needs 17; 3, 3, 2 needs 22.
    goes(to(57, with(START, 50, H, 3, S, 1, FUEL, 17)), 50, 53, 55, 57);
    goesNot(to(57, with(START, 50, H, 3, S, 1, FUEL, 16)), 50, 53, 55, 57);
    goes(to(58, with(START, 50, H, 3, S, 1, FUEL, 22)), 50, 53, 56, 58);
    goesNot(to(58, with(START, 50, H, 3, S, 1, FUEL, 21)), 50, 53, 56, 58);
  }

  /** The dearest of all needs 54: six HOURS at PACE 3. */
  private static void fuelOfSixHours() {
    int[] fuels = {53, 54, 60};
    int[] ways = new int[3];
    for (int i = 0; i < 3; i++) {
      SevenRings x = with(FUEL, fuels[i]);
      ways[i] = x.ways();
      x.sheet(0, 2, 7);
      int[] cells = {0, 3, 6, 9, 39, 69, 99};
      for (int h = 0; h < 7; h++) x.item(0, 2, h, cells[h]);
      Check.holds("26 known by FUEL " + fuels[i], i == 0 ? x.held(0, 2, 0) == SevenRings.NOT : x.held(0, 2, 0) >= 0);
    }
    Check.holds("7 54 lets more than 53", ways[1] > ways[0]);
    due("7 60 lets no more than 54", ways[2], ways[1]);
    due("7 too little for six HOURS", with(FUEL, 5).ways(), 0);
    due("7 just enough for PACE 1", with(FUEL, 6, T, 0).ways(), 3);
  }

  /** "those beyond H count for nothing". */
  private static void ringsBeyondH() {
    for (int h = 1; h <= 5; h++) {
      SevenRings x = with(H, h);
      int ways = x.ways();
      long weight = x.weight();
      for (int hour = h + 1; hour <= 6; hour++) {
        x.ring(hour, 0, 40);
        x.ring(hour, 1, 1);
      }
      due("7 beyond " + h, x.ways(), ways);
      due("8 beyond " + h, x.weight(), weight);
      for (int hour = h; hour < 6; hour++) due("22 beyond " + h, x.moves(hour), 0);
      due("22 beyond " + h, x.moves(6), 0);
      x.set(H, h + 1);
      due("7 no more beyond", x.ways(), 0);
      due("22 no more beyond", x.moves(h), 1000);
    }
  }

  /** "2, if its CELL then is just so FAR, 1, if one more or less, else 0". From 56 CELL 59 is 6 FAR. */
  private static void justSoOneOffTwoOff() {
    int[] weights = {0, 32, 64, 32, 0};
    for (int off = -2; off <= 2; off++) {
      // Only PACE 3 to the right is in ROW 5, COLUMN 9: it is told apart by the CELL.
      SevenRings x = with(EYE, 56, START, 56, H, 1);
      x.ring(1, 0, 6 + off);
      int i = number(x, 56, 59);
      due("9 off by " + off, i < 0 ? 0 : x.way(i, -1), weights[off + 2]);
    }
    SevenRings x = with(EYE, 56, START, 56, H, 2, T, 0, FUEL, 2);
    x.ring(1, 0, 3);
    x.ring(2, 0, 4);
    int i = number(x, 56, 57, 58);
    due("9 one off, then just so", x.way(i, -1), 64);
    x.ring(1, 0, -1);
    due("9 not told gives no more, no less", x.way(number(x, 56, 57, 58), -1), 64);
    x.ring(2, 0, -1);
    due("9 none told", x.way(number(x, 56, 57, 58), -1), 32);
  }

  /** HOW FAR 0 and what no CELL can be: CELL 99 is 25 FAR from CELL 0, and none is more. */
  private static void farthestRings() {
    SevenRings x = with(START, 88, H, 1);
    int[][] due = {{25, 3, 128}, {26, 1, 32}, {27, 0, 0}, {40, 0, 0}};
    for (int[] d : due) {
      x.ring(1, 0, d[0]);
      due("7 HOW FAR " + d[0], x.ways(), d[1]);
      due("8 HOW FAR " + d[0], x.weight(), d[2]);
    }
    x = with(EYE, 56, START, 55, H, 1);
    x.ring(1, 0, 0);
    due("7 HOW FAR 0", x.ways(), 1);
    due("8 HOW FAR 0", x.weight(), 64);
    x.ring(1, 0, 1);
    // CELL 56 is one less, and those round it that are 2 FAR and a leg from 55: 45, 46, 65, 66, 57.
    due("7 HOW FAR 1", x.ways(), 6);
    due("8 HOW FAR 1", x.weight(), 6 * 32);
  }

  /** "a WAY must be less FAR than an HOUR ahead, by 2 more FAR (else 0)": as FAR is neither. */
  private static void tones() {
    SevenRings x = with(EYE, 50, START, 55, H, 1);
    due("3 as FAR", x.far(45), x.far(55));
    for (int tone = 0; tone <= 2; tone++) {
      x.ring(1, 1, tone);
      Check.due("7 as FAR by " + tone, number(x, 55, 45) >= 0 ? 1 : 0, tone == 0 ? 1 : 0);
      Check.due("7 less FAR by " + tone, number(x, 55, 54) >= 0 ? 1 : 0, tone <= 1 ? 1 : 0);
      Check.due("7 more FAR by " + tone, number(x, 55, 56) >= 0 ? 1 : 0, tone != 1 ? 1 : 0);
      Check.due("8 a TONE gives no weight", number(x, 55, 54) < 0 ? 32 : x.way(number(x, 55, 54), -1), 32);
    }
    x = with(EYE, 55, START, 55, H, 1);
    x.ring(1, 1, 1);
    due("7 nothing is less FAR than 0", x.ways(), 0);
    x.ring(1, 1, 2);
    due("7 all is more FAR than 0", x.ways(), 24);
  }

  /** An HOUR ahead of HOUR 1 is THE START; of HOUR 2 it is HOUR 1. */
  private static void toneOfTheHourAhead() {
    SevenRings x = with(EYE, 50, START, 55, H, 2, FUEL, 2);
    x.ring(2, 1, 1);
    goes(x, 55, 56, 55);
    x.ring(2, 1, 2);
    goesNot(x, 55, 56, 55);
    goes(x, 55, 54, 55);
    x.ring(1, 1, 2);
    goesNot(x, 55, 54, 55);
    goes(x, 55, 56, 57);
    // HOW FAR and TONE of one HOUR are both held against it.
    x.ring(2, 0, 14);
    due("9", x.way(number(x, 55, 56, 57), -1), 64);
    x.ring(2, 1, 1);
    due("7 both must be", x.ways(), 0);
  }

  /** 32 by 4 by 4 by 2 is 1; times 2 for each of six RINGS it is 2048. */
  private static void greatestAndLeastWeight() {
    SevenRings x = with(T, 0);
    for (int hour = 1; hour <= 6; hour++) x.ring(hour, 0, 2 * hour);
    due("7 right and down", x.ways(), 2);
    due("9 the greatest", x.way(0, -1), 2048);
    due("8", x.weight(), 4096);
    x.ring(6, 0, 13);
    due("9 one off at last", x.way(0, -1), 1024);
    x = to(67, with(START, 44, H, 3, T, 2, S, 1));
    int i = number(x, 44, 64, 66, 67);
    due("9 one turn, SLOWED", x.way(i, -1), 2 * 4);
    x = to(76, with(START, 44, H, 3, T, 2, S, 1));
    i = number(x, 44, 64, 66, 76);
    due("9 two turns, SLOWED", x.way(i, -1), 2 * 1);
    x.ring(3, 0, 1);
    i = number(x, 44, 64, 66, 76);
    due("9 one off: the least", x.way(i, -1), 1);
    due("9 two turns", x.way(i, -2), 2);
    due("9 SLOWED", x.way(i, -3), 1);
  }

  /** "WAYS of WEIGHT 0 are none": not counted, not told, not in may, at no HOUR. */
  private static void waysOfWeightZero() {
    SevenRings x = with(START, 55, H, 2, T, 0);
    x.ring(2, 0, 40);
    due("7", x.ways(), 0);
    due("8", x.weight(), 0);
    due("9", x.way(0, 0), NONE);
    for (int hour = 0; hour <= 2; hour++) for (int row = 0; row < 10; row++) due("10", x.may(hour, row), 0);
    due("18", x.odds(55, 0), NONE);
    due("24", x.next(), NONE);
    for (int row = 0; row < 10; row++) due("19", x.where(row), 0);
  }

  /** THE END of one WAY alone: from 56 to 57, seen from there; COLUMN 9 is two more. */
  private static void theEnd() {
    int[][] above = {{1, 0, 0}, {2, 1, 0}, {1, 1, 1}, {1, 1, 1}};
    int[][] below = {{1, 1, 1}, {3, 3, 1}, {2, 4, 4}, {2, 4, 4}};
    for (int g = 0; g <= 3; g++) {
      SevenRings x = with(EYE, 57, START, 56, H, 1, G, g);
      x.ring(1, 0, 0);
      due("7 one WAY", x.ways(), 1);
      for (int c = 0; c < 3; c++) {
        due("18 above, G " + g, x.odds(57 + c, 0), above[g][c]);
        due("18 below, G " + g, x.odds(57 + c, 1), below[g][c]);
      }
      due("18 not beyond CELLS", x.odds(60, 0), 0);
      due("20", x.count(4), Math.min(3, g + 1));
    }
    // G 3 where there is room: 2, 1, 1, 1 of 5.
    SevenRings x = with(EYE, 52, START, 51, H, 1, G, 3);
    x.ring(1, 0, 0);
    for (int c = 0; c <= 3; c++) due("18 above", x.odds(52 + c, 0), c == 0 ? 2 : 1);
    due("18 not farther than G", x.odds(56, 0), 0);
    due("18 below", x.odds(55, 1), 5);
  }

  /** "gone by its last COURSE": two WAYS to 46, one by 2 at last, one by 0. CELL by CELL, whatever the PACE. */
  private static void theLastCourse() {
    SevenRings x = with(EYE, 46, START, 55, H, 2, G, 1);
    x.ring(2, 0, 0);
    due("7", x.ways(), 2);
    due("18", x.odds(46, 0), 2);
    due("18", x.odds(46, 1), 3);
    due("18 by 2", x.odds(47, 1), 6);
    due("18 by 0", x.odds(36, 1), 6);
    due("20", x.count(4), 3);
    x = with(EYE, 53, START, 50, H, 1, G, 2);
    x.ring(1, 0, 0);
    due("7 at PACE 3", x.ways(), 1);
    due("18", x.odds(53, 1), 2);
    due("18 one more", x.odds(54, 1), 4);
    due("18 two more", x.odds(55, 1), 4);
    due("18 not three more", x.odds(56, 0), 0);
  }

  /** Promise 10: of each HOUR, of the first and the last ROW, and nothing of what was ahead of a change. */
  private static void mayFollows() {
    SevenRings x = with(T, 0);
    due("10 THE START", x.may(0, 0), 1);
    due("10 the last HOUR", x.may(6, 0), 64);
    due("10 the last HOUR", x.may(6, 6), 65);
    x.set(START, 99);
    due("10 no longer there", x.may(0, 0), 0);
    due("10 THE START", x.may(0, 9), 512);
    due("10 no longer there", x.may(6, 0), 0);
    due("10 no longer there", x.may(6, 6), 0);
    due("10 the last HOUR", x.may(6, 9), 8);
    due("10 the last HOUR", x.may(6, 3), 8 | 512);
    x.set(H, 1);
    for (int row = 0; row < 10; row++) due("10 HOUR 1", x.may(1, row), row < 6 ? 0 : row == 9 ? 64 | 128 | 256 : 512 | 1 << row);
    x = to(57, with(START, 56, H, 1));
    due("7 one WAY", x.ways(), 1);
    due("10 of one WAY", x.may(0, 5), 64);
    due("10 of one WAY", x.may(1, 5), 128);
  }
}
