import java.util.Arrays;

/**
 * The bounds of every number of every call: the last that is let and the first that is not, at both ends;
 * what is not let is BAD and changes nothing.
 */
public final class BoundsTest {
  private static final int BAD = SevenRings.BAD;
  /** Numbers that look like small ones where only their lowest bits are kept. */
  private static final int[] FAR_OFF = {Integer.MIN_VALUE, Integer.MIN_VALUE + 1, -65535, -255, 257, 65537, Integer.MAX_VALUE};

  private interface Call { long of(SevenRings x, int[] a); }

  public static void main(String[] args) {
    World.isWorthAsking();
    sets();
    rings();
    ways();
    seas();
    piecesAndDrags();
    agesByMonths();
    piecesThatAreThere();
    whatIsAsked();
    sheets();
    Check.end();
  }

  /** Each number in turn at its bounds {least, most}, the others as they are given. */
  private static void bounds(String name, int[] good, int[][] ranges, Call call) {
    let(name, good, call);
    for (int p = 0; p < good.length; p++) {
      if (ranges[p] == null) continue;
      int least = ranges[p][0];
      int most = ranges[p][1];
      let(name, with(good, p, least), call);
      let(name, with(good, p, most), call);
      refused(name, with(good, p, least - 1), call);
      refused(name, with(good, p, most + 1), call);
      for (int v : FAR_OFF) if (v < least || v > most) refused(name, with(good, p, v), call);
    }
  }

  private static int[] with(int[] good, int p, int v) {
    int[] a = good.clone();
    a[p] = v;
    return a;
  }

  private static void let(String name, int[] a, Call call) {
    long got = call.of(World.TOLD.make(), a);
    Check.holds(name + Arrays.toString(a) + " is let: " + got, got >= 0);
  }

  private static void refused(String name, int[] a, Call call) {
    World.TOLD.refuses(name + Arrays.toString(a), x -> call.of(x, a), BAD);
  }

  private static int[] to(int least, int most) { return new int[] {least, most}; }

  private static final int[] CELL = {0, 99}, ROW = {0, 9}, SEASON = {0, 1}, BIT = {0, 1}, FREE = null;

  /** Promise 2; a number that is let is kept. */
  private static void sets() {
    int[][] ranges = {CELL, CELL, to(1, 6), to(0, 2), to(0, 1), to(0, 60), to(0, 3), to(0, 8)};
    for (int what = 0; what < 8; what++) {
      bounds("2 set", new int[] {what, 1}, new int[][] {FREE, ranges[what]}, (x, a) -> x.set(a[0], a[1]));
      for (int v = ranges[what][0]; v <= ranges[what][1]; v++) {
        SevenRings x = World.TOLD.make();
        Check.holds("2 set", x.set(what, v) >= 0);
        Check.due("2 kept of " + what, x.set(what, 1), v);
      }
    }
    bounds("2 set", new int[] {0, 0}, new int[][] {FREE, FREE}, (x, a) -> x.set(a[0], a[1]));
    for (int what : new int[] {-1, 8, Integer.MIN_VALUE, Integer.MAX_VALUE, 256}) {
      refused("2 set", new int[] {what, 1}, (x, a) -> x.set(a[0], a[1]));
    }
  }

  /** Promises 3, 4 and 5. */
  private static void rings() {
    bounds("3 far", new int[] {5}, new int[][] {CELL}, (x, a) -> x.far(a[0]));
    Call ring = (x, a) -> x.ring(a[0], a[1], a[2]);
    bounds("4 ring", new int[] {2, 0, 2}, new int[][] {to(1, 6), BIT, to(-1, 40)}, ring);
    bounds("4 ring", new int[] {2, 1, 2}, new int[][] {to(1, 6), BIT, to(0, 2)}, ring);
    for (int hour = 1; hour <= 6; hour++) {
      for (int v = -1; v <= 40; v++) {
        SevenRings x = new SevenRings();
        Check.due("4 not told at first", x.ring(hour, 0, v), 99);
        Check.due("4 told", x.ring(hour, 0, 0), 100 + v);
      }
      for (int v = 0; v <= 2; v++) {
        SevenRings x = new SevenRings();
        Check.due("4 no tone at first", x.ring(hour, 1, v), 100);
        Check.due("4 a tone", x.ring(hour, 1, 0), 100 + v);
      }
    }
    bounds("5 type", new int[] {3}, new int[][] {to(1, 8)}, (x, a) -> x.type(0x4142434445464748L, a[0]));
    bytes();
  }

  /** Promise 5: "a byte not 32 .. 126", at each of the n places; those above the n lowest are not looked at. */
  private static void bytes() {
    for (int n = 1; n <= 8; n++) {
      for (int place = 0; place < 8; place++) {
        for (int b = 0; b < 256; b++) {
          long w = 0x4141414141414141L & ~(255L << 8 * place) | (long) b << 8 * place;
          boolean let = place >= n || b >= 32 && b <= 126;
          SevenRings x = new SevenRings();
          Check.due("5 type of " + w + ", " + n, x.type(w, n), let ? n : BAD);
          Check.due("5 so many came", x.type(65, 1), let ? n + 1 : 1);
        }
        for (int b : new int[] {0, 31, 127, 128, 255}) {
          final int words = n;
          final long w = 0x4141414141414141L & ~(255L << 8 * place) | (long) b << 8 * place;
          if (place < n) World.TOLD.refuses("5 type of " + w + ", " + n, x -> x.type(w, words), BAD);
        }
      }
    }
  }

  /** Promises 9 and 10: H is 3 there. */
  private static void ways() {
    Call way = (x, a) -> x.way(a[0], a[1]);
    bounds("9 way", new int[] {0, 0}, new int[][] {FREE, to(-3, 3)}, way);
    let("9 way", new int[] {World.TOLD.make().ways() - 1, 0}, way);
    for (int i : new int[] {-1, -2, -256, Integer.MIN_VALUE}) refused("9 way", new int[] {i, 0}, way);
    bounds("10 may", new int[] {0, 0}, new int[][] {to(0, 3), ROW}, (x, a) -> x.may(a[0], a[1]));
    for (int h = 1; h <= 6; h++) {
      SevenRings x = new SevenRings();
      x.set(2, h);
      Check.holds("9 the last HOUR", x.way(0, h) >= 0 && x.may(h, 0) >= 0);
      Check.due("9 behind the last HOUR", x.way(0, h + 1), BAD);
      Check.due("10 behind the last HOUR", x.may(h + 1, 0), BAD);
    }
  }

  /** Promises 11, 12 and 13; sea has ten digits to read. */
  private static void seas() {
    bounds("11 sea", new int[] {0, 0}, new int[][] {SEASON, ROW}, (x, a) -> {
      if (a[0] < 0 || a[0] > 1 || a[1] < 0 || a[1] > 9) return x.sea(a[0], a[1]);
      x.rings();
      return Check.sea(x, a[0], a[1], "0123456788");
    });
    bounds("12 current", new int[] {0, 50, 0, 3}, new int[][] {SEASON, CELL, BIT, to(0, 8)}, (x, a) -> x.cell(a[0], a[1], a[2], a[3]));
    bounds("12 warmth", new int[] {1, 50, 1, 3}, new int[][] {SEASON, CELL, BIT, to(0, 9)}, (x, a) -> x.cell(a[0], a[1], a[2], a[3]));
    for (int season = 0; season < 2; season++) {
      for (int v = 0; v <= 9; v++) {
        SevenRings x = new SevenRings();
        if (v < 9) Check.due("12 none at first", x.cell(season, 99, 0, v), 8);
        if (v < 9) Check.due("12 kept", x.cell(season, 99, 0, 8), v);
        Check.due("12 cold at first", x.cell(season, 0, 1, v), 0);
        Check.due("12 kept", x.cell(season, 0, 1, 0), v);
      }
    }
    bounds("13 depth", new int[] {50, 3}, new int[][] {CELL, to(1, 9)}, (x, a) -> x.depth(a[0], a[1]));
    for (int v = 1; v <= 9; v++) {
      SevenRings x = new SevenRings();
      Check.due("13 1 at first", x.depth(99, v), 1);
      Check.due("13 kept", x.depth(99, 1), v);
    }
  }

  /** Promises 14 to 17. */
  private static void piecesAndDrags() {
    bounds("14 piece", new int[] {50, 24, 0, 3, 4}, new int[][] {CELL, FREE, BIT, to(0, 24), to(0, 9)},
        (x, a) -> x.piece(a[0], a[1], a[2], a[3], a[4]));
    bounds("14 piece", new int[] {50, 12, 0, 0, 4}, new int[][] {CELL, to(1, 24), BIT, to(0, 12), to(0, 9)},
        (x, a) -> x.piece(a[0], a[1], a[2], a[3], a[4]));
    bounds("15 drift", new int[] {50, 3, 0}, new int[][] {CELL, to(0, 24), BIT}, (x, a) -> x.drift(a[0], a[1], a[2]));
    bounds("16 fits", new int[] {0, 50}, new int[][] {to(0, 1), CELL}, (x, a) -> x.fits(a[0], a[1]));
    bounds("17 drag", new int[] {50, 3}, new int[][] {CELL, to(1, 7)}, (x, a) -> x.drag(a[0], a[1]));
  }

  /** Promise 14: "BAD: also AGE above n", for each n. */
  private static void agesByMonths() {
    for (int n = 1; n <= 24; n++) {
      SevenRings x = new SevenRings();
      Check.due("14 AGE above n", x.piece(0, n, 0, n + 1, 0), BAD);
      Check.due("14 none came", x.count(2), 0);
      Check.due("14 AGE n", x.piece(0, n, 0, n, 0), 0);
      Check.due("14 AGE n less 1", x.piece(0, n, 0, n - 1, 0), 1);
      Check.due("14 AGE 0", x.piece(0, n, 0, 0, 0), 2);
      Check.due("14 AGE below 0", x.piece(0, n, 0, -1, 0), BAD);
      Check.due("14 three came", x.count(2), 3);
    }
  }

  /** Promises 16 and 22: "there is no such thing" is BAD, by how many PIECES there are. */
  private static void piecesThatAreThere() {
    for (int pieces = 0; pieces <= 4; pieces++) {
      SevenRings x = new SevenRings();
      for (int i = 0; i < pieces; i++) Check.due("14 as they come", x.piece(99, 1, 0, 0, 0), i);
      for (int i = -1; i <= 4; i++) {
        boolean there = i >= 0 && i < pieces;
        Check.due("16 fits of " + i + " among " + pieces, x.fits(i, 99), there ? 4 : BAD);
        // -1 is FUEL there, and 4 all DRAGS: these can always be left out.
        Check.holds("22 moves of " + i + " among " + pieces, there || i < 0 || i > 3 ? x.moves(8 + i) >= 0 : x.moves(8 + i) == BAD);
      }
    }
  }

  /** Promises 18, 19, 20, 22 and 25. */
  private static void whatIsAsked() {
    bounds("18 odds", new int[] {50, 0}, new int[][] {CELL, BIT}, (x, a) -> x.odds(a[0], a[1]));
    bounds("19 where", new int[] {5}, new int[][] {ROW}, (x, a) -> x.where(a[0]));
    bounds("20 count", new int[] {3}, new int[][] {to(0, 4)}, (x, a) -> x.count(a[0]));
    bounds("22 moves", new int[] {3}, new int[][] {FREE}, (x, a) -> x.moves(a[0]));
    for (int a = 0; a <= 12; a++) if (a != 10 && a != 11) let("22 moves", new int[] {a}, (x, b) -> x.moves(b[0]));
    for (int a : new int[] {-1, 10, 11, 13, 256, -256, Integer.MIN_VALUE, Integer.MAX_VALUE}) {
      refused("22 moves", new int[] {a}, (x, b) -> x.moves(b[0]));
    }
    bounds("25 should", new int[] {50, 3, 0, 0}, new int[][] {CELL, to(0, 24), BIT, BIT}, (x, a) -> x.should(a[0], a[1], a[2], a[3]));
  }

  /** Promises 26 and 29 to 33: what is no SHEET, no LANE, no number of items. */
  private static void sheets() {
    refusedSheets("26 held", (x, a) -> x.held(a[0], a[1], 0));
    refusedSheets("29 sheet", (x, a) -> x.sheet(a[0], a[1], 3));
    refusedSheets("31 item", (x, a) -> x.item(a[0], a[1], 0, 5));
    refusedSheets("32 film", (x, a) -> x.film(0, a[0], a[1], 0));
    for (int sheet = 0; sheet < 4; sheet++) {
      for (int lane = 0; lane < 3; lane++) {
        for (int n = 0; n <= 16; n++) {
          SevenRings x = World.TOLD.make();
          Check.due("29 so many items", x.sheet(sheet, lane, n), n);
          Check.due("30 so many items", x.drop(sheet), n);
        }
      }
    }
    Call size = (x, a) -> x.sheet(a[0], a[1], a[2]);
    for (int n : new int[] {17, 18, 256, 65536, Integer.MAX_VALUE}) refused("29 sheet", new int[] {1, 1, n}, size);
    for (int n : new int[] {-1, -2, -256, -65536, Integer.MIN_VALUE}) {
      World.TOLD.refuses("29 sheet(1, 1, " + n + ")", x -> x.sheet(1, 1, n), SevenRings.SIZE);
    }
    for (int v : new int[] {-1, 4, 256, -256, Integer.MIN_VALUE, Integer.MAX_VALUE}) {
      refused("30 drop", new int[] {v}, (x, a) -> x.drop(a[0]));
      refused("33 copy from", new int[] {v}, (x, a) -> x.copy(a[0], 0, 0, 0, 1));
      refused("33 copy to", new int[] {v}, (x, a) -> x.copy(0, 0, a[0], 0, 1));
    }
    for (int k : new int[] {-1, -2, Integer.MIN_VALUE}) refused("32 film", new int[] {k}, (x, a) -> x.film(a[0], 0, 0, 0));
  }

  private static void refusedSheets(String name, Call call) {
    for (int v : new int[] {-1, 4, 256, -256, Integer.MIN_VALUE, Integer.MAX_VALUE}) refused(name, new int[] {v, 0}, call);
    for (int v : new int[] {-1, 3, 256, -256, Integer.MIN_VALUE, Integer.MAX_VALUE}) refused(name, new int[] {0, v}, call);
  }
}
