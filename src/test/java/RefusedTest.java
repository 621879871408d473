/**
 * Calls that can be refused for several reasons at once: the answer is the first that the call names
 * (of what the machine finds: NULL, CAST, INDEX, SIZE), and what answers so changes nothing, but as told.
 */
public final class RefusedTest {
  private static final int BAD = SevenRings.BAD, NOT = SevenRings.NOT, FULL = SevenRings.FULL, NONE = SevenRings.NONE,
      NULL = SevenRings.NULL, CAST = SevenRings.CAST, INDEX = SevenRings.INDEX, SIZE = SevenRings.SIZE;
  private static final int MAX = Integer.MAX_VALUE, MIN = Integer.MIN_VALUE;

  public static void main(String[] args) {
    World.isWorthAsking();
    type();
    way();
    faultsOfRings();
    faultsOfSeas();
    piece();
    drag();
    noOdds();
    allDragged();
    restore();
    held();
    sheet();
    drop();
    item();
    film();
    copy();
    askingChangesNothing();
    Check.end();
  }

  /** Promise 5: "BAD: n, a byte not 32 .. 126; FULL: 60." */
  private static void type() {
    World.FULL.refuses("5 no byte more", x -> x.type(65, 1), FULL);
    World.FULL.refuses("5 no eight bytes more", x -> x.type(0x4142434445464748L, 8), FULL);
    World.FULL.refuses("5 BAD n ahead of FULL", x -> x.type(65, 0), BAD);
    World.FULL.refuses("5 BAD n ahead of FULL", x -> x.type(65, 9), BAD);
    World.FULL.refuses("5 a BAD byte ahead of FULL", x -> x.type(31, 1), BAD);
    World.FULL.refuses("5 a BAD byte ahead of FULL", x -> x.type(0x4142434445464700L, 8), BAD);
    for (int had = 52; had <= 60; had++) {
      for (int n = 1; n <= 8; n++) {
        SevenRings x = new SevenRings();
        for (int i = 0; i < had; i++) Check.due("5 one more", x.type(' ', 1), i + 1);
        Check.due("5 " + n + " behind " + had, x.type(0x2020202020202020L, n), had + n <= 60 ? had + n : FULL);
        if (had + n <= 60) continue;
        // What does not fit does not come in part, either.
        Check.due("5 the end of THE TAPE is where it was", x.rings(), -20 - had);
      }
    }
  }

  /** Promise 9: "BAD: also i below 0; NONE: there are not so many." */
  private static void way() {
    int all = World.TOLD.make().ways();
    for (int hour = -3; hour <= 3; hour++) {
      final int h = hour;
      World.TOLD.refuses("9 one too many", x -> x.way(all, h), NONE);
      World.NO_ODDS.refuses("9 there are none", x -> x.way(0, h), NONE);
    }
    World.TOLD.refuses("9 far too many", x -> x.way(MAX, 0), NONE);
    World.TOLD.refuses("9 BAD HOUR ahead of NONE", x -> x.way(all, 4), BAD);
    World.TOLD.refuses("9 BAD HOUR ahead of NONE", x -> x.way(MAX, -4), BAD);
    World.NO_ODDS.refuses("9 BAD i ahead of NONE", x -> x.way(-1, 0), BAD);
    World.NO_ODDS.refuses("9 BAD both", x -> x.way(MIN, MIN), BAD);
  }

  /** Promise 6: "THE TAPE, which is empty then (by a FAULT, too) .. A FAULT (RINGS stay)." */
  private static void faultsOfRings() {
    World.TOLD.changes("6 a FAULT at the end", x -> {
      x.type(';', 1);
      return x.rings();
    }, -29, World.NO_TAPE);
    World.TOLD.changes("6 a FAULT inside", x -> {
      x.type(0x2A20L, 2);
      return x.rings();
    }, -28, World.NO_TAPE);
    World.NO_TAPE.refuses("6 nothing to read", SevenRings::rings, -20);
    World.BARE.refuses("6 nothing to read", SevenRings::rings, -20);
  }

  /** Promise 11: "BAD (THE TAPE stays); a FAULT", by which it is empty. */
  private static void faultsOfSeas() {
    World.TOLD.changes("11 a FAULT", x -> x.sea(0, 0), -21, World.NO_TAPE);
    World.TOLD.changes("11 a FAULT", x -> x.sea(1, 9), -21, World.NO_TAPE);
    World.TOLD.refuses("11 BAD ahead of a FAULT", x -> x.sea(2, 0), BAD);
    World.TOLD.refuses("11 BAD ahead of a FAULT", x -> x.sea(0, 10), BAD);
    World.NO_TAPE.refuses("11 nothing to read", x -> x.sea(0, 0), -20);
    World.NO_TAPE.refuses("11 BAD ahead of a FAULT", x -> x.sea(-1, -1), BAD);
    World.NO_TAPE.refuses("11 a digit too few", x -> Check.sea(x, 1, 4, "012345678"), -29);
    World.NO_TAPE.refuses("11 a digit too many", x -> Check.sea(x, 1, 4, "01234567888"), -30);
    World.NO_TAPE.refuses("11 a digit too great", x -> Check.sea(x, 1, 4, "0123456789"), -29);
  }

  /** Promise 14: "BAD: also AGE above n; FULL: 4." */
  private static void piece() {
    World.FULL.refuses("14", x -> x.piece(5, 5, 1, 5, 5), FULL);
    World.FULL.refuses("14 BAD CELL ahead of FULL", x -> x.piece(100, 5, 1, 5, 5), BAD);
    World.FULL.refuses("14 BAD n ahead of FULL", x -> x.piece(5, 0, 1, 0, 5), BAD);
    World.FULL.refuses("14 BAD n ahead of FULL", x -> x.piece(5, 25, 1, 5, 5), BAD);
    World.FULL.refuses("14 BAD HIGH ahead of FULL", x -> x.piece(5, 5, 2, 5, 5), BAD);
    World.FULL.refuses("14 BAD AGE ahead of FULL", x -> x.piece(5, 5, 1, 6, 5), BAD);
    World.FULL.refuses("14 BAD need ahead of FULL", x -> x.piece(5, 5, 1, 5, 10), BAD);
  }

  /** Promise 17: "BAD; FULL: 4." */
  private static void drag() {
    World.FULL.refuses("17", x -> x.drag(66, 1), FULL);
    World.FULL.refuses("17 BAD CELL ahead of FULL", x -> x.drag(-1, 1), BAD);
    World.FULL.refuses("17 BAD CELL ahead of FULL", x -> x.drag(100, 1), BAD);
    World.FULL.refuses("17 BAD EIGHTHS ahead of FULL", x -> x.drag(66, 0), BAD);
    World.FULL.refuses("17 BAD EIGHTHS ahead of FULL", x -> x.drag(66, 8), BAD);
  }

  /** Promises 18, 22, 24 and 25 where the sum is 0. */
  private static void noOdds() {
    World.NO_ODDS.refuses("18", x -> x.odds(0, 0), NONE);
    World.NO_ODDS.refuses("18", x -> x.odds(99, 1), NONE);
    World.NO_ODDS.refuses("18 BAD CELL ahead of NONE", x -> x.odds(100, 0), BAD);
    World.NO_ODDS.refuses("18 BAD part ahead of NONE", x -> x.odds(0, 2), BAD);
    World.NO_ODDS.refuses("22 BAD where none is", x -> x.moves(13), BAD);
    World.NO_ODDS.refuses("22 a PIECE that is not there", x -> x.moves(10), BAD);
    World.NO_ODDS.refuses("24", SevenRings::next, NONE);
    World.NO_ODDS.refuses("25", x -> x.should(0, 0, 0, 0), NONE);
    World.NO_ODDS.refuses("25", x -> x.should(99, 24, 1, 1), NONE);
    World.NO_ODDS.refuses("25 BAD CELL ahead of NONE", x -> x.should(-1, 0, 0, 0), BAD);
    World.NO_ODDS.refuses("25 BAD MONTH ahead of NONE", x -> x.should(0, 25, 0, 0), BAD);
    World.NO_ODDS.refuses("25 BAD HIGH ahead of NONE", x -> x.should(0, 0, 2, 0), BAD);
    World.NO_ODDS.refuses("25 BAD part ahead of NONE", x -> x.should(0, 0, 0, 2), BAD);
  }

  /** Promise 24: "NONE: no ODDS; all such CELLS were dragged." THE END can be in one CELL alone. */
  private static void allDragged() {
    SevenRings x = new SevenRings();
    x.set(0, 59);
    x.set(1, 56);
    x.set(2, 1);
    x.ring(1, 0, 0);
    Check.due("24 the only one", x.next(), 59);
    Check.due("17", x.drag(58, 7), 0);
    Check.due("24 another one was dragged", x.next(), 59);
    Check.due("17", x.drag(59, 1), 1);
    Check.due("24 all were", x.next(), NONE);
    Check.due("18 ODDS there are", x.odds(59, 0), 1);
  }

  private static void restore() {
    World.BARE.refuses("28", SevenRings::restore, NONE);
  }

  /** Promise 26: "BAD; NULL; CAST; INDEX; NOT". SHEET 0 has 7 bytes, 2 nothing; H is 3. */
  private static void held() {
    World.TOLD.refuses("26 BAD SHEET ahead of all", x -> x.held(4, 0, -1), BAD);
    World.TOLD.refuses("26 BAD LANE ahead of NULL, INDEX", x -> x.held(2, 3, -1), BAD);
    World.TOLD.refuses("26 BAD LANE ahead of CAST, INDEX", x -> x.held(0, -1, 99), BAD);
    World.TOLD.refuses("26", x -> x.held(2, 0, 0), NULL);
    World.TOLD.refuses("26 NULL ahead of INDEX", x -> x.held(2, 2, -1), NULL);
    World.TOLD.refuses("26", x -> x.held(0, 1, 0), CAST);
    World.TOLD.refuses("26 CAST ahead of INDEX", x -> x.held(0, 2, MAX), CAST);
    World.TOLD.refuses("26 CAST ahead of INDEX", x -> x.held(1, 2, -1), CAST);
    World.TOLD.refuses("26 CAST ahead of INDEX", x -> x.held(3, 0, MIN), CAST);
    World.TOLD.refuses("26 INDEX ahead of NOT", x -> x.held(0, 0, 4), INDEX);
    World.TOLD.refuses("26 INDEX ahead of NOT", x -> x.held(0, 0, -1), INDEX);
    World.TOLD.refuses("26 INDEX ahead of NOT", x -> x.held(3, 2, 1), INDEX);
    World.TOLD.refuses("26", x -> x.held(0, 0, 7), INDEX);
    World.TOLD.refuses("26", x -> x.held(0, 0, MAX), INDEX);
    World.TOLD.refuses("26", x -> x.held(0, 0, MIN), INDEX);
    World.TOLD.refuses("26 the last that is let", x -> x.held(0, 0, 3), NOT);
    World.TOLD.refuses("26 the first that is let", x -> x.held(0, 0, 0), NOT);
    World.TOLD.refuses("26 just as many items", x -> x.held(3, 2, 0), NOT);
    World.BARE.refuses("26 nothing at first", x -> x.held(0, 0, 0), NULL);
  }

  /** Promise 29: "BAD: also n above 16; SIZE: n below 0." */
  private static void sheet() {
    World.TOLD.refuses("29", x -> x.sheet(0, 0, -1), SIZE);
    World.TOLD.refuses("29 another LANE", x -> x.sheet(0, 2, MIN), SIZE);
    World.TOLD.refuses("29 nothing yet", x -> x.sheet(2, 1, -1), SIZE);
    World.TOLD.refuses("29 BAD SHEET ahead of SIZE", x -> x.sheet(4, 0, -1), BAD);
    World.TOLD.refuses("29 BAD SHEET ahead of SIZE", x -> x.sheet(-1, 0, MIN), BAD);
    World.TOLD.refuses("29 BAD LANE ahead of SIZE", x -> x.sheet(0, 3, -1), BAD);
    World.TOLD.refuses("29 BAD LANE ahead of SIZE", x -> x.sheet(0, -1, -1), BAD);
    World.TOLD.refuses("29 BAD n", x -> x.sheet(2, 0, 17), BAD);
    World.BARE.refuses("29 SIZE makes no row", x -> x.sheet(0, 0, -1), SIZE);
  }

  /** Promise 30: "BAD; NULL". */
  private static void drop() {
    World.TOLD.refuses("30", x -> x.drop(2), NULL);
    for (int sheet = 0; sheet < 4; sheet++) {
      final int s = sheet;
      World.BARE.refuses("30 nothing at first", x -> x.drop(s), NULL);
    }
  }

  /** Promise 31: "BAD; NULL; CAST; INDEX". SHEET 1 has 16 shorts, 3 has 4 ints. */
  private static void item() {
    World.TOLD.refuses("31 BAD LANE ahead of NULL", x -> x.item(2, 3, -1, 7), BAD);
    World.TOLD.refuses("31 BAD SHEET ahead of all", x -> x.item(-1, 3, -1, 7), BAD);
    World.TOLD.refuses("31 BAD LANE ahead of CAST", x -> x.item(0, 3, 99, 7), BAD);
    World.TOLD.refuses("31", x -> x.item(2, 0, 0, 7), NULL);
    World.TOLD.refuses("31 NULL ahead of INDEX", x -> x.item(2, 1, -1, 7), NULL);
    World.TOLD.refuses("31", x -> x.item(0, 1, 0, 7), CAST);
    World.TOLD.refuses("31 CAST ahead of INDEX", x -> x.item(0, 2, 7, 7), CAST);
    World.TOLD.refuses("31 CAST ahead of INDEX", x -> x.item(3, 1, -1, 7), CAST);
    int[][] rows = {{0, 0, 7}, {1, 1, 16}, {3, 2, 4}};
    for (int[] r : rows) {
      World.TOLD.refuses("31 ahead of the first", x -> x.item(r[0], r[1], -1, 7), INDEX);
      World.TOLD.refuses("31 behind the last", x -> x.item(r[0], r[1], r[2], 7), INDEX);
      World.TOLD.refuses("31 far behind", x -> x.item(r[0], r[1], MAX, 7), INDEX);
      World.TOLD.refuses("31 far ahead", x -> x.item(r[0], r[1], MIN, 7), INDEX);
    }
    SevenRings x = new SevenRings();
    x.sheet(0, 0, 0);
    Check.due("31 a row of none", x.item(0, 0, 0, 7), INDEX);
    Check.due("31 a row of none", x.item(0, 1, 0, 7), CAST);
  }

  /** Promise 32: "BAD: also k below 0; NULL; CAST; INDEX; NOT". */
  private static void film() {
    int all = World.TOLD.make().ways();
    World.TOLD.refuses("32 BAD k ahead of NULL", x -> x.film(-1, 2, 0, 0), BAD);
    World.TOLD.refuses("32 BAD k ahead of CAST", x -> x.film(-1, 0, 1, 0), BAD);
    World.TOLD.refuses("32 BAD k ahead of INDEX", x -> x.film(-1, 0, 0, 4), BAD);
    World.TOLD.refuses("32 BAD SHEET ahead of NOT", x -> x.film(all, 4, 0, 0), BAD);
    World.TOLD.refuses("32 BAD LANE ahead of NULL", x -> x.film(0, 2, 3, 0), BAD);
    World.TOLD.refuses("32 BAD LANE ahead of CAST", x -> x.film(0, 0, 3, 0), BAD);
    World.TOLD.refuses("32", x -> x.film(0, 2, 0, 0), NULL);
    World.TOLD.refuses("32 NULL ahead of INDEX, NOT", x -> x.film(all, 2, 1, -1), NULL);
    World.TOLD.refuses("32", x -> x.film(0, 0, 1, 0), CAST);
    World.TOLD.refuses("32 CAST ahead of INDEX, NOT", x -> x.film(all, 0, 2, -1), CAST);
    World.TOLD.refuses("32", x -> x.film(0, 0, 0, 4), INDEX);
    World.TOLD.refuses("32", x -> x.film(0, 0, 0, -1), INDEX);
    World.TOLD.refuses("32", x -> x.film(0, 3, 2, 1), INDEX);
    World.TOLD.refuses("32", x -> x.film(0, 1, 1, 13), INDEX);
    World.TOLD.refuses("32", x -> x.film(0, 1, 1, MAX), INDEX);
    World.TOLD.refuses("32 INDEX ahead of NOT", x -> x.film(all, 0, 0, 4), INDEX);
    World.TOLD.refuses("32 INDEX ahead of NOT", x -> x.film(MAX, 0, 0, MIN), INDEX);
    World.TOLD.refuses("32 one too many", x -> x.film(all, 0, 0, 3), NOT);
    World.TOLD.refuses("32 far too many", x -> x.film(MAX, 1, 1, 12), NOT);
    World.NO_ODDS.refuses("32 there are none", x -> x.film(0, 0, 0, 0), NOT);
    Check.due("32 the last WAY at the last place", World.TOLD.make().film(all - 1, 0, 0, 3), 4);
    Check.due("32 the last WAY at the last place", World.TOLD.make().film(all - 1, 1, 1, 12), 4);
  }

  /** Promise 33: "BAD; NULL (either); CAST: of unlike LANES; INDEX (n below 0, too)". */
  private static void copy() {
    World.TOLD.refuses("33 BAD from ahead of NULL", x -> x.copy(4, 0, 2, 0, 1), BAD);
    World.TOLD.refuses("33 BAD to ahead of NULL", x -> x.copy(2, 0, -1, 0, 1), BAD);
    World.TOLD.refuses("33 BAD ahead of INDEX", x -> x.copy(0, -1, 4, -1, -1), BAD);
    World.TOLD.refuses("33 NULL from", x -> x.copy(2, 0, 0, 0, 0), NULL);
    World.TOLD.refuses("33 NULL to", x -> x.copy(0, 0, 2, 0, 0), NULL);
    World.TOLD.refuses("33 NULL both", x -> x.copy(2, 0, 2, 0, 0), NULL);
    World.TOLD.refuses("33 NULL ahead of INDEX", x -> x.copy(2, -1, 1, 99, -1), NULL);
    World.TOLD.refuses("33 NULL ahead of INDEX", x -> x.copy(1, -1, 2, 99, -1), NULL);
    World.TOLD.refuses("33 CAST", x -> x.copy(0, 0, 1, 0, 1), CAST);
    World.TOLD.refuses("33 CAST where no item is taken", x -> x.copy(1, 0, 3, 0, 0), CAST);
    World.TOLD.refuses("33 CAST ahead of INDEX", x -> x.copy(3, -1, 0, 0, 1), CAST);
    World.TOLD.refuses("33 CAST ahead of INDEX", x -> x.copy(3, 0, 0, 0, -1), CAST);
    int[][] indices = {{-1, 0, 1}, {0, -1, 1}, {7, 0, 1}, {0, 7, 1}, {0, 0, 8}, {1, 0, 7}, {0, 1, 7}, {0, 0, -1}, {7, 7, 1},
        {-1, 0, 0}, {0, -1, 0}, {8, 0, 0}, {0, 8, 0}, {MAX, 0, 0}, {0, MAX, 0}, {MIN, 0, 0}, {0, MIN, 0}, {MAX, 0, 1},
        {0, MAX, 1}, {1, 0, MAX}, {0, 1, MAX}, {MAX, MAX, MAX}, {0, 0, MIN}, {MIN, MIN, MIN}, {1, 1, MIN}, {-1, -1, 2}, {8, 8, -1}};
    for (int[] v : indices) {
      World.TOLD.refuses("33 INDEX of " + java.util.Arrays.toString(v), x -> x.copy(0, v[0], 0, v[1], v[2]), INDEX);
    }
    World.TOLD.refuses("33 no item is taken", x -> x.copy(0, 7, 0, 7, 0), 0);
    World.TOLD.refuses("33 no item is taken", x -> x.copy(0, 0, 0, 0, 0), 0);
    World.TOLD.refuses("33 all on itself", x -> x.copy(0, 0, 0, 0, 7), 7);
  }

  /** What only asks leaves all as it was, however much it left out meanwhile. */
  private static void askingChangesNothing() {
    for (World w : new World[] {World.TOLD, World.FULL, World.NO_ODDS, World.BARE}) {
      w.refuses("3", x -> x.far(99), w.make().far(99));
      w.refuses("7", SevenRings::ways, w.make().ways());
      w.refuses("8", SevenRings::weight, w.make().weight());
      w.refuses("9", x -> x.way(2, 1), w.make().way(2, 1));
      w.refuses("10", x -> x.may(1, 5), w.make().may(1, 5));
      w.refuses("15", x -> x.drift(55, 24, 1), w.make().drift(55, 24, 1));
      w.refuses("16", x -> x.fits(0, 65), w.make().fits(0, 65));
      w.refuses("18", x -> x.odds(65, 1), w.make().odds(65, 1));
      w.refuses("19", x -> x.where(6), w.make().where(6));
      w.refuses("20", x -> x.count(4), w.make().count(4));
      for (int a = 0; a <= 12; a++) {
        final int assumption = a;
        w.refuses("22", x -> x.moves(assumption), w.make().moves(assumption));
      }
      w.refuses("23", SevenRings::most, w.make().most());
      w.refuses("24", SevenRings::next, w.make().next());
      w.refuses("25", x -> x.should(65, 3, 1, 1), w.make().should(65, 3, 1, 1));
    }
    World.TOLD.refuses("26", x -> known(x) >= 0 ? 1 : 0, 1);
  }

  /** Holds the flight of SHEET 3 against a world in which it is known, and goes back. */
  private static int known(SevenRings x) {
    x.set(2, 1);
    int got = x.held(3, 2, 0);
    x.set(2, 3);
    return got;
  }
}
