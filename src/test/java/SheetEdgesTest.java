/** Section 4 of the document, sentence by sentence: each case at its edge. Promises 29 to 33. */
public final class SheetEdgesTest {
  private static final int BAD = SevenRings.BAD, NULL = SevenRings.NULL, CAST = SevenRings.CAST, INDEX = SevenRings.INDEX,
      SIZE = SevenRings.SIZE;

  public static void main(String[] args) {
    nothingAtFirst();
    anEmptyRow();
    aFullRow();
    newRowsAreOfNoughts();
    anotherLane();
    lowestBits();
    withASign();
    filmAtEachPlace();
    filmOfEachHour();
    copyAtEachPlace();
    copyOverItself();
    copyOfNoItem();
    Check.end();
  }

  private static void due(String call, long got, long want) { Check.due(call, got, want); }

  /** One HOUR from a START at no cost: what an item is can be told by held. */
  private static SevenRings reader() {
    SevenRings x = new SevenRings();
    x.set(2, 1);
    return x;
  }

  /** Whether item i is a CELL: the flight from there to the one beside it is known. SHEET 3 is used for it. */
  private static boolean is(SevenRings x, int sheet, int lane, int i, int cell) {
    x.sheet(3, lane, 2);
    if (x.copy(sheet, i, 3, 0, 1) != 1) return false;
    x.item(3, lane, 1, cell < 50 ? cell + 10 : cell - 10);
    int start = x.set(1, cell);
    int got = x.held(3, lane, 0);
    x.set(1, start);
    return got >= 0;
  }

  private static void nothingAtFirst() {
    for (int sheet = 0; sheet < 4; sheet++) {
      SevenRings x = new SevenRings();
      due("30", x.drop(sheet), NULL);
      for (int lane = 0; lane < 3; lane++) {
        due("31", x.item(sheet, lane, 0, 1), NULL);
        due("32", x.film(0, sheet, lane, 0), NULL);
        due("26", x.held(sheet, lane, 0), NULL);
      }
      due("33", x.copy(sheet, 0, sheet, 0, 0), NULL);
      due("29", x.sheet(sheet, 0, 0), 0);
      due("33", x.copy(sheet, 0, sheet, 0, 0), 0);
      due("30", x.drop(sheet), 0);
      due("30 nothing again", x.drop(sheet), NULL);
      due("33 nothing again", x.copy(sheet, 0, sheet, 0, 0), NULL);
    }
  }

  /** "of 0 to 16 items": 0 is a row, and not nothing. */
  private static void anEmptyRow() {
    for (int lane = 0; lane < 3; lane++) {
      SevenRings x = new SevenRings();
      due("29", x.sheet(0, lane, 0), 0);
      due("31", x.item(0, lane, 0, 1), INDEX);
      due("31", x.item(0, lane, -1, 1), INDEX);
      due("31", x.item(0, (lane + 1) % 3, 0, 1), CAST);
      due("32", x.film(0, 0, lane, 0), INDEX);
      due("26", x.held(0, lane, 0), INDEX);
      due("33", x.copy(0, 0, 0, 0, 0), 0);
      due("33", x.copy(0, 1, 0, 0, 0), INDEX);
      due("33", x.copy(0, 0, 0, 1, 0), INDEX);
      due("33", x.copy(0, 0, 0, 0, 1), INDEX);
      due("30", x.drop(0), 0);
    }
  }

  private static void aFullRow() {
    for (int lane = 0; lane < 3; lane++) {
      SevenRings x = reader();
      due("29 one too many", x.sheet(0, lane, 17), BAD);
      due("29 it is still nothing", x.drop(0), NULL);
      due("29 as many as there may be", x.sheet(0, lane, 16), 16);
      due("29 one too many", x.sheet(0, lane, 17), BAD);
      due("29 one too few", x.sheet(0, lane, -1), SIZE);
      for (int i = 0; i < 16; i++) due("31", x.item(0, lane, i, 3 * i), 1);
      due("31 behind the last", x.item(0, lane, 16, 5), INDEX);
      due("31 ahead of the first", x.item(0, lane, -1, 5), INDEX);
      for (int i = 0; i < 16; i++) Check.holds("31 item " + i, is(x, 0, lane, i, 3 * i));
      due("30", x.drop(0), 16);
    }
  }

  /** Promise 29: "A SHEET holds a new row": nothing of the old one is in it. */
  private static void newRowsAreOfNoughts() {
    for (int lane = 0; lane < 3; lane++) {
      SevenRings x = reader();
      x.sheet(0, 2, 5);
      for (int i = 0; i < 5; i++) x.item(0, 2, i, 77);
      due("29 anew", x.sheet(0, lane, 4), 4);
      for (int i = 0; i < 4; i++) Check.holds("29 item " + i + " is 0", is(x, 0, lane, i, 0));
      x.item(0, lane, 3, 66);
      due("30", x.drop(0), 4);
      due("29 anew", x.sheet(0, lane, 16), 16);
      for (int i = 0; i < 16; i++) Check.holds("29 item " + i + " is 0", is(x, 0, lane, i, 0));
    }
  }

  /** CAST: "of SHEETS another LANE". */
  private static void anotherLane() {
    for (int lane = 0; lane < 3; lane++) {
      for (int other = 0; other < 3; other++) {
        SevenRings x = reader();
        x.sheet(0, lane, 2);
        x.sheet(1, other, 2);
        int due = lane == other ? 1 : CAST;
        due("31", x.item(0, other, 0, 1), due);
        due("32", x.film(0, 0, other, 0), lane == other ? 2 : CAST);
        due("26", x.held(0, other, 0), lane == other ? 0 : CAST);
        due("33", x.copy(0, 0, 1, 0, 1), due);
        due("33", x.copy(1, 0, 0, 0, 1), due);
        x.sheet(0, other, 2);
        due("29 the new row is of the new LANE", x.item(0, other, 0, 1), 1);
        due("29 the new row is of the new LANE", x.copy(0, 0, 1, 0, 1), 1);
      }
    }
  }

  /** Promise 31: "becomes v, its lowest bits": 8, 16 or all 32. */
  private static void lowestBits() {
    int[] bits = {8, 16, 32};
    for (int lane = 0; lane < 3; lane++) {
      SevenRings x = reader();
      x.sheet(0, lane, 1);
      for (int bit = 0; bit < 32; bit++) {
        // With one bit more than 40 has: it is 40 if that bit is not kept.
        int v = 40 ^ 1 << bit;
        x.item(0, lane, 0, v);
        boolean same = bit >= bits[lane];
        if (same || v < 0 || v > 99) Check.holds("31 lane " + lane + " bit " + bit, is(x, 0, lane, 0, 40) == same);
        else Check.holds("31 lane " + lane + " bit " + bit, is(x, 0, lane, 0, v));
      }
      x.item(0, lane, 0, Integer.MIN_VALUE);
      Check.holds("31 the least", is(x, 0, lane, 0, 0) == (lane < 2));
      x.item(0, lane, 0, 99);
      Check.holds("31 the last CELL", is(x, 0, lane, 0, 99));
    }
  }

  /** "(all with a sign)": what has the highest bit is below 0, and no CELL. */
  private static void withASign() {
    int[][] notCells = {{128, 255, -1, -128, 127, 200}, {32768, 65535, -1, -32768, 32767, 128}, {-1, Integer.MIN_VALUE, Integer.MAX_VALUE, 100}};
    for (int lane = 0; lane < 3; lane++) {
      for (int v : notCells[lane]) {
        SevenRings x = reader();
        x.sheet(0, lane, 2);
        x.item(0, lane, 0, v);
        due("26 from no CELL", x.held(0, lane, 0), SevenRings.NOT);
        x.item(0, lane, 0, 0);
        x.item(0, lane, 1, v);
        due("26 to no CELL", x.held(0, lane, 0), SevenRings.NOT);
      }
    }
  }

  /** Promise 32: "from item i on: H and 1", at the first place, the last, and beyond both; items around stay. */
  private static void filmAtEachPlace() {
    for (int lane = 0; lane < 3; lane++) {
      for (int size = 2; size <= 16; size += 7) {
        for (int i = -1; i <= size; i++) {
          SevenRings x = reader();
          x.sheet(0, lane, size);
          for (int k = 0; k < size; k++) x.item(0, lane, k, 77);
          boolean fits = i >= 0 && i + 2 <= size;
          due("32 at " + i + " of " + size, x.film(3, 0, lane, i), fits ? 2 : INDEX);
          // The fourth WAY from CELL 0 is by COURSE 3 at PACE 1.
          for (int k = 0; k < size; k++) {
            int due = !fits || k < i || k > i + 1 ? 77 : k == i ? 0 : 11;
            Check.holds("32 item " + k, is(x, 0, lane, k, due));
          }
        }
      }
    }
  }

  /** H and 1 items for each H; CELLS are those that way tells. */
  private static void filmOfEachHour() {
    for (int h = 1; h <= 6; h++) {
      SevenRings x = new SevenRings();
      x.set(2, h);
      x.set(3, 0);
      int last = x.ways() - 1;
      int[] cells = new int[h + 1];
      for (int hour = 0; hour <= h; hour++) cells[hour] = x.way(last, hour);
      x.sheet(0, 1, h);
      due("32 too few items", x.film(last, 0, 1, 0), INDEX);
      x.sheet(0, 1, h + 1);
      due("32 just so many", x.film(last, 0, 1, 0), h + 1);
      due("32 one too far", x.film(last, 0, 1, 1), INDEX);
      due("32 one WAY too many", x.film(last + 1, 0, 1, 0), SevenRings.NOT);
      x.set(2, 1);
      for (int hour = 0; hour <= h; hour++) Check.holds("32 its CELL at " + hour, is(x, 0, 1, hour, cells[hour]));
    }
  }

  /** Promise 33: n items from i to j, each at its bounds; items around stay. */
  private static void copyAtEachPlace() {
    for (int n = -1; n <= 4; n++) {
      for (int i = -1; i <= 4; i++) {
        for (int j = -1; j <= 5; j++) {
          SevenRings x = reader();
          x.sheet(0, 0, 3);
          x.sheet(1, 0, 4);
          for (int k = 0; k < 3; k++) x.item(0, 0, k, 10 + k);
          for (int k = 0; k < 4; k++) x.item(1, 0, k, 50 + k);
          boolean fits = n >= 0 && i >= 0 && j >= 0 && i + n <= 3 && j + n <= 4;
          due("33 copy(0, " + i + ", 1, " + j + ", " + n + ")", x.copy(0, i, 1, j, n), fits ? n : INDEX);
          for (int k = 0; k < 3; k++) Check.holds("33 from stays", is(x, 0, 0, k, 10 + k));
          for (int k = 0; k < 4; k++) {
            boolean came = fits && k >= j && k < j + n;
            Check.holds("33 item " + k, is(x, 1, 0, k, came ? 10 + i + k - j : 50 + k));
          }
        }
      }
    }
  }

  /** "(or the same) .. as if all were taken ahead", both ways. */
  private static void copyOverItself() {
    for (int lane = 0; lane < 3; lane++) {
      for (int i = 0; i <= 5; i++) {
        for (int j = 0; j <= 5; j++) {
          int n = 5 - Math.max(i, j);
          SevenRings x = reader();
          x.sheet(2, lane, 5);
          for (int k = 0; k < 5; k++) x.item(2, lane, k, 20 + k);
          due("33", x.copy(2, i, 2, j, n), n);
          for (int k = 0; k < 5; k++) Check.holds("33 item " + k, is(x, 2, lane, k, k >= j && k < j + n ? 20 + i + k - j : 20 + k));
          due("33 one too many", x.copy(2, i, 2, j, n + 1), INDEX);
        }
      }
    }
    SevenRings x = reader();
    x.sheet(0, 2, 16);
    x.sheet(1, 2, 16);
    for (int k = 0; k < 16; k++) x.item(0, 2, k, 60 + k);
    due("33 all", x.copy(0, 0, 1, 0, 16), 16);
    due("33 more than all", x.copy(0, 0, 1, 0, 17), INDEX);
    for (int k = 0; k < 16; k++) Check.holds("33 item " + k, is(x, 1, 2, k, 60 + k));
  }

  /** "INDEX also where no item is taken, if i, j is below 0, or above how many there are". */
  private static void copyOfNoItem() {
    for (int i = -2; i <= 5; i++) {
      for (int j = -2; j <= 6; j++) {
        SevenRings x = reader();
        x.sheet(0, 1, 3);
        x.sheet(1, 1, 4);
        boolean let = i >= 0 && i <= 3 && j >= 0 && j <= 4;
        due("33 copy(0, " + i + ", 1, " + j + ", 0)", x.copy(0, i, 1, j, 0), let ? 0 : INDEX);
        due("33 of two LANES", x.sheet(1, 2, 4), 4);
        due("33 CAST ahead", x.copy(0, i, 1, j, 0), CAST);
        x.drop(1);
        due("33 NULL ahead", x.copy(0, i, 1, j, 0), NULL);
        due("33 BAD ahead", x.copy(0, i, 4, j, 0), BAD);
      }
    }
  }
}
