/** Promises 29 to 33: SHEETS that may be missing. */
public final class SheetsTest {
  private static final int BAD = SevenRings.BAD, NOT = SevenRings.NOT, NULL = SevenRings.NULL, CAST = SevenRings.CAST,
      INDEX = SevenRings.INDEX, SIZE = SevenRings.SIZE;

  public static void main(String[] args) {
    sheet();
    drop();
    item();
    lowestBits();
    film();
    copyAnswers();
    copyItems();
    Check.end();
  }

  private static void due(String call, long got, long want) { Check.due(call, got, want); }

  private static void sheet() {
    SevenRings x = new SevenRings();
    due("29", x.sheet(-1, 0, 1), BAD);
    due("29", x.sheet(4, 0, 1), BAD);
    due("29", x.sheet(0, -1, 1), BAD);
    due("29", x.sheet(0, 3, 1), BAD);
    due("29", x.sheet(0, 0, 17), BAD);
    due("29", x.sheet(0, 0, Integer.MAX_VALUE), BAD);
    due("29", x.sheet(0, 0, -1), SIZE);
    due("29", x.sheet(0, 0, Integer.MIN_VALUE), SIZE);
    due("29 bad ahead of size", x.sheet(4, 0, -1), BAD);
    due("29 nothing yet", x.drop(0), NULL);
    for (int lane = 0; lane < 3; lane++) {
      due("29", x.sheet(lane, lane, 16), 16);
      due("29", x.sheet(3, lane, 0), 0);
      due("29 its lane", x.item(lane, lane, 15, 1), 1);
      due("29 another lane", x.item(lane, (lane + 1) % 3, 15, 1), CAST);
    }
    due("29 size changes nothing", x.sheet(0, 0, -1), SIZE);
    due("29 size changes nothing", x.drop(0), 16);
    x.sheet(1, 2, 3);
    due("29 a new row", x.drop(1), 3);
    // A new row is of 0s: CELL 0 three times is no KNOWN FLIGHT, one step from it is.
    x = known();
    x.sheet(0, 0, 2);
    due("31", x.item(0, 0, 1, 1), 1);
    due("26", x.held(0, 0, 0), 0);
    x.sheet(0, 0, 2);
    due("29 nothing is left of the old one", x.held(0, 0, 0), NOT);
  }

  /** One HOUR from CELL 0. */
  private static SevenRings known() {
    SevenRings x = new SevenRings();
    x.set(2, 1);
    return x;
  }

  private static void drop() {
    SevenRings x = new SevenRings();
    due("30", x.drop(-1), BAD);
    due("30", x.drop(4), BAD);
    due("30", x.drop(0), NULL);
    x.sheet(0, 1, 7);
    x.sheet(1, 1, 0);
    due("30", x.drop(0), 7);
    due("30", x.drop(0), NULL);
    due("30 a row of none is not nothing", x.drop(1), 0);
    due("30", x.drop(1), NULL);
    due("30 gone", x.item(0, 1, 0, 1), NULL);
  }

  private static void item() {
    SevenRings x = new SevenRings();
    due("31", x.item(0, 0, 0, 1), NULL);
    due("31 bad ahead of null", x.item(-1, 0, 0, 1), BAD);
    due("31 bad ahead of null", x.item(4, 0, 0, 1), BAD);
    due("31 bad ahead of null", x.item(0, 3, 0, 1), BAD);
    due("31 bad ahead of null", x.item(0, -1, 0, 1), BAD);
    x.sheet(0, 2, 4);
    due("31 cast ahead of index", x.item(0, 0, 9, 1), CAST);
    due("31", x.item(0, 2, -1, 1), INDEX);
    due("31", x.item(0, 2, 4, 1), INDEX);
    due("31", x.item(0, 2, Integer.MAX_VALUE, 1), INDEX);
    due("31", x.item(0, 2, 3, Integer.MIN_VALUE), 1);
    x.sheet(1, 0, 0);
    due("31 none is there", x.item(1, 0, 0, 1), INDEX);
  }

  /** What an item became is seen by whether it is a CELL of a KNOWN FLIGHT. */
  private static void lowestBits() {
    SevenRings x = known();
    int[] more = {0, 256, 65536, -256, -65536, 1 << 30};
    boolean[][] same = {{true, true, true, true, true, true}, {true, false, true, false, true, true},
        {true, false, false, false, false, false}};
    for (int lane = 0; lane < 3; lane++) {
      x.sheet(0, lane, 2);
      for (int i = 0; i < more.length; i++) {
        due("31", x.item(0, lane, 1, 11 + more[i]), 1);
        due("31 lane " + lane + " of 11 and " + more[i], x.held(0, lane, 0), same[lane][i] ? 0 : NOT);
      }
    }
    x.set(1, 99);
    x.sheet(0, 0, 2);
    x.item(0, 0, 0, 99);
    x.item(0, 0, 1, 88);
    due("31", x.held(0, 0, 0), 0);
    x.item(0, 0, 1, -1);
    due("31 with a sign", x.held(0, 0, 0), NOT);
  }

  private static void film() {
    SevenRings x = new SevenRings();
    x.set(1, 55);
    x.set(2, 2);
    due("32 null", x.film(0, 0, 0, 0), NULL);
    due("32 bad ahead of null", x.film(-1, 0, 0, 0), BAD);
    due("32 bad ahead of null", x.film(0, 4, 0, 0), BAD);
    due("32 bad ahead of null", x.film(0, -1, 0, 0), BAD);
    due("32 bad ahead of null", x.film(0, 0, 3, 0), BAD);
    due("32 bad ahead of null", x.film(0, 0, -1, 0), BAD);
    x.sheet(0, 1, 5);
    due("32 cast", x.film(0, 0, 2, 9), CAST);
    due("32 index", x.film(0, 0, 1, 3), INDEX);
    due("32 index", x.film(0, 0, 1, -1), INDEX);
    due("32 index", x.film(0, 0, 1, Integer.MAX_VALUE), INDEX);
    due("32 index ahead of not", x.film(160, 0, 1, 3), INDEX);
    due("32 not", x.film(160, 0, 1, 0), NOT);
    due("32 not", x.film(Integer.MAX_VALUE, 0, 1, 0), NOT);
    due("32 nothing came", x.held(0, 1, 0), NOT);
    for (int lane = 0; lane < 3; lane++) {
      x.sheet(lane, lane, 5);
      due("32", x.film(159, lane, lane, 2), 3);
      due("32 it is there", Math.min(0, x.held(lane, lane, 2)), 0);
      due("32 not ahead of it", x.held(lane, lane, 1), NOT);
    }
    // Each CELL is as way tells it: one that is put anew changes nothing.
    int wide = x.held(0, 0, 2);
    for (int hour = 0; hour <= 2; hour++) x.item(0, 0, 2 + hour, x.way(159, hour));
    due("32 as way tells", x.held(0, 0, 2), wide);
  }

  private static void copyAnswers() {
    SevenRings x = new SevenRings();
    x.sheet(0, 1, 5);
    x.sheet(1, 1, 3);
    x.sheet(2, 2, 5);
    due("33", x.copy(-1, 0, 0, 0, 0), BAD);
    due("33", x.copy(4, 0, 0, 0, 0), BAD);
    due("33", x.copy(0, 0, -1, 0, 0), BAD);
    due("33", x.copy(3, 0, 4, 0, 0), BAD);
    due("33", x.copy(3, 0, 0, 0, 0), NULL);
    due("33", x.copy(0, 0, 3, 0, -1), NULL);
    due("33", x.copy(3, 9, 3, 9, 9), NULL);
    due("33", x.copy(0, -1, 2, 0, -1), CAST);
    due("33", x.copy(0, 0, 1, 0, -1), INDEX);
    due("33", x.copy(0, -1, 1, 0, 1), INDEX);
    due("33", x.copy(0, 0, 1, -1, 1), INDEX);
    due("33", x.copy(0, 5, 1, 0, 1), INDEX);
    due("33", x.copy(0, 0, 1, 3, 1), INDEX);
    due("33", x.copy(0, 0, 1, 0, 4), INDEX);
    due("33", x.copy(0, 1, 0, 0, 5), INDEX);
    due("33", x.copy(0, Integer.MAX_VALUE, 1, 0, 1), INDEX);
    due("33", x.copy(0, 1, 1, 1, Integer.MAX_VALUE), INDEX);
    due("33", x.copy(0, Integer.MIN_VALUE, 1, 0, 0), INDEX);
    due("33 no item, at the end", x.copy(0, 5, 1, 3, 0), 0);
    due("33 no item, beyond", x.copy(0, 6, 1, 3, 0), INDEX);
    due("33 no item, beyond", x.copy(0, 5, 1, 4, 0), INDEX);
    due("33 no item, ahead", x.copy(0, -1, 1, 0, 0), INDEX);
    due("33 no item, ahead", x.copy(0, 0, 1, -1, 0), INDEX);
    due("33", x.copy(0, 2, 1, 0, 3), 3);
    due("33", x.copy(0, 0, 0, 0, 5), 5);
  }

  private static void copyItems() {
    SevenRings x = new SevenRings();
    x.set(2, 3);
    x.sheet(0, 0, 6);
    x.sheet(1, 0, 6);
    for (int i = 0; i < 4; i++) x.item(0, 0, i, 11 * i);
    due("26", x.held(0, 0, 0), 0);
    due("33", x.copy(0, 0, 1, 2, 4), 4);
    due("33 it came", x.held(1, 0, 2), 0);
    due("33 from stays", x.held(0, 0, 0), 0);
    due("33 on itself, forward", x.copy(0, 0, 0, 1, 5), 5);
    due("33 as if all were taken ahead", x.held(0, 0, 1), 0);
    due("33 on itself, back", x.copy(0, 1, 0, 0, 4), 4);
    due("33 as if all were taken ahead", x.held(0, 0, 0), 0);
    due("33 two on", x.copy(0, 0, 0, 2, 4), 4);
    due("33 as if all were taken ahead", x.held(0, 0, 2), 0);
    due("33 no item", x.copy(1, 0, 0, 2, 0), 0);
    due("33 nothing changed", x.held(0, 0, 2), 0);
    due("33 what answers so changes nothing", x.copy(1, 0, 0, 2, 5), INDEX);
    due("33 what answers so changes nothing", x.held(0, 0, 2), 0);
  }
}
