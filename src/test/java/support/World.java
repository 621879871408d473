import java.util.Arrays;
import java.util.function.Supplier;
import java.util.function.ToLongFunction;

/**
 * Objects that stand in a known state, and all that can be asked of one: so a call that is refused can be
 * seen to have changed nothing. No object is used for more than 512 calls, so what is asked comes in parts,
 * each of an object of its own.
 */
final class World {
  /** All is told, an IMAGE of other things is kept, THE TAPE has a TEXT, three SHEETS have rows. */
  static final World TOLD = new World("told", World::told, true);
  /** The same with as many PIECES, DRAGS and bytes as there may be. */
  static final World FULL = new World("full", World::full, true);
  /** The same with RINGS that no WAY lets: no ODDS. */
  static final World NO_ODDS = new World("no odds", World::withoutOdds, true);
  /** The first one with an empty TAPE. */
  static final World NO_TAPE = new World("no tape", World::withoutTape, true);
  /** Nothing is told. */
  static final World BARE = new World("bare", SevenRings::new, false);

  /** What SHEETS 0, 1 and 3 have: each item is a leg away from the one ahead, so that held can tell them. */
  private static final int[] BYTES = {11, 22, 33, 22, 21, 20, 50};
  private static final int[] SHORTS = {0, 3, 6, 9, 39, 69, 99, 96, 93, 90, 80, 70, 71, 81, 82, 72};
  private static final int[] INTS = {55, 44, 77, 88};
  private static final int PARTS = 7, MOST_CALLS = 512;

  private final String name;
  private final Supplier<SevenRings> maker;
  private final boolean hasSheets;
  private long[][] asMade = null;

  private World(String name, Supplier<SevenRings> maker, boolean hasSheets) {
    this.name = name;
    this.maker = maker;
    this.hasSheets = hasSheets;
  }

  SevenRings make() { return maker.get(); }

  /** A call is answered so, and nothing is changed by it. */
  void refuses(String call, ToLongFunction<SevenRings> asked, long answer) {
    changes(call, asked, answer, this);
  }

  /** A call is answered so, and all is as it is in another world then. */
  void changes(String call, ToLongFunction<SevenRings> asked, long answer, World to) {
    for (int part = 0; part < PARTS; part++) {
      SevenRings x = make();
      Check.due(name + ": " + call, asked.applyAsLong(x), answer);
      long[] got = to.ask(x, part);
      Check.holds(name + ": part " + part + " behind " + call + " is as in " + to.name, Arrays.equals(got, to.due(part)));
    }
  }

  private long[] due(int part) {
    if (asMade == null) {
      asMade = new long[PARTS][];
      for (int i = 0; i < PARTS; i++) asMade[i] = ask(make(), i);
    }
    return asMade[part];
  }

  private static SevenRings told() {
    SevenRings x = withoutTape();
    x.type(Check.word("1:5+;3:?"), 8);
    return x;
  }

  private static SevenRings withoutTape() {
    SevenRings x = new SevenRings();
    settings(x, 12, 34, 2, 0, 0, 40, 0, 5);
    x.ring(1, 0, 3);
    x.ring(2, 1, 2);
    x.piece(36, 1, 1, 0, 0);
    x.cell(1, 3, 0, 7);
    x.cell(1, 3, 1, 6);
    x.depth(4, 8);
    x.image();
    x.clear();
    settings(x, 37, 55, 3, 2, 1, 11, 2, 3);
    x.ring(1, 0, 5);
    x.ring(2, 1, 1);
    x.ring(3, 0, 7);
    x.ring(5, 0, 40);
    x.ring(6, 1, 1);
    for (int row = 0; row < 10; row++) {
      flow(x, 0, row);
      flow(x, 1, row);
    }
    for (int cell = 2; cell < 100; cell += 5) {
      x.cell(0, cell, 1, 1 + cell % 9);
      x.cell(1, cell, 1, 9 - cell % 9);
      x.depth(cell, 2 + cell % 8);
    }
    x.piece(96, 3, 1, 1, 0);
    x.piece(64, 4, 0, 4, 0);
    x.drag(66, 3);
    x.drag(76, 7);
    row(x, 0, 0, BYTES);
    row(x, 1, 1, SHORTS);
    row(x, 3, 2, INTS);
    return x;
  }

  private static SevenRings full() {
    SevenRings x = told();
    x.piece(65, 2, 0, 0, 9);
    x.piece(76, 1, 1, 1, 0);
    x.drag(99, 1);
    x.drag(66, 1);
    for (int i = 0; i < 6; i++) x.type(Check.word("        "), 8);
    x.type(Check.word("    "), 4);
    return x;
  }

  private static SevenRings withoutOdds() {
    SevenRings x = told();
    x.ring(2, 0, 40);
    return x;
  }

  private static void settings(SevenRings x, int... v) {
    for (int what = 0; what < 8; what++) x.set(what, v[what]);
  }

  /** CURRENTS of a ROW that mostly go one way and turn here and there. */
  private static void flow(SevenRings x, int season, int row) {
    long w = 0;
    for (int column = 0; column < 10; column++) {
      int course = (3 * row + 5 * column) % 7 == 0 ? (row + column) % 9 : season == 0 ? 6 : 8;
      w = w << 8 | '0' + course;
      if (column == 4) x.type(w, 5);
    }
    x.type(w, 5);
    x.sea(season, row);
  }

  private static void row(SevenRings x, int sheet, int lane, int[] items) {
    x.sheet(sheet, lane, items.length);
    for (int i = 0; i < items.length; i++) x.item(sheet, lane, i, items[i]);
  }

  /** What an object answers, part by part; it is of no use behind that. */
  private long[] ask(SevenRings x, int part) {
    Answers a = new Answers();
    switch (part) {
      case 0: askWays(x, a); askTape(x, a); break;
      case 1: askOdds(x, a, 0); break;
      case 2: askFits(x, a, 0); askOdds(x, a, 1); break;
      case 3: askFits(x, a, 2); askSeas(x, a); break;
      case 4: askCells(x, a, 0); break;
      case 5: askCells(x, a, 1); break;
      default: a.add(x.restore()); askWays(x, a); askSheets(x, a); askDepths(x, a);
    }
    Check.holds("an object has at most " + MOST_CALLS + " calls", a.n + 230 <= MOST_CALLS);
    return Arrays.copyOf(a.row, a.n);
  }

  private static final class Answers {
    final long[] row = new long[MOST_CALLS];
    int n = 0;

    void add(long answer) { row[n++] = answer; }
  }

  private static void askWays(SevenRings x, Answers a) {
    int last = x.set(2, 1);
    a.add(last);
    a.add(x.set(2, last));
    for (int what = 0; what < 8; what++) {
      int was = x.set(what, 1);
      a.add(was);
      a.add(x.set(what, was));
    }
    for (int hour = 1; hour <= 6; hour++) {
      int far = x.ring(hour, 0, -1);
      a.add(far);
      a.add(x.ring(hour, 0, far - 100));
      int tone = x.ring(hour, 1, 0);
      a.add(tone);
      a.add(x.ring(hour, 1, tone - 100));
    }
    for (int what = 0; what <= 4; what++) a.add(x.count(what));
    a.add(x.ways());
    a.add(x.weight());
    for (int row = 0; row < 10; row++) a.add(x.may(last, row));
    for (int i = 0; i < 3; i++) a.add(x.way(i, last));
  }

  private static void askTape(SevenRings x, Answers a) {
    a.add(x.type(' ', 1));
    a.add(x.rings());
    for (int hour = 1; hour <= 6; hour++) {
      a.add(x.ring(hour, 0, -1));
      a.add(x.ring(hour, 1, 0));
    }
    a.add(x.type(' ', 1));
  }

  private static void askOdds(SevenRings x, Answers a, int part) {
    for (int cell = 0; cell < 100; cell++) a.add(x.odds(cell, part));
    a.add(x.next());
    if (part == 1) return;
    for (int row = 0; row < 10; row++) a.add(x.where(row));
    for (int assumption = 0; assumption <= 12; assumption++) a.add(x.moves(assumption));
    a.add(x.most());
  }

  private static void askFits(SevenRings x, Answers a, int first) {
    for (int piece = first; piece < first + 2; piece++) {
      for (int row = 1; row < 8; row++) {
        for (int column = 0; column < 8; column++) a.add(x.fits(piece, 10 * row + column));
      }
    }
  }

  private static void askSeas(SevenRings x, Answers a) {
    for (int cell = 3; cell < 100; cell += 8) {
      a.add(x.drift(cell, 24, 1));
      a.add(x.drift(cell, 23, 0));
      a.add(x.should(cell, 1, 1, 0));
    }
  }

  private static void askCells(SevenRings x, Answers a, int season) {
    for (int cell = 0; cell < 100; cell++) {
      a.add(x.cell(season, cell, 0, 8));
      a.add(x.cell(season, cell, 1, 0));
    }
  }

  private static void askDepths(SevenRings x, Answers a) {
    for (int cell = 0; cell < 100; cell++) a.add(x.depth(cell, 1));
  }

  private void askSheets(SevenRings x, Answers a) {
    if (hasSheets) {
      x.set(2, 1);
      x.set(5, 60);
      askItems(x, a, 0, 0, BYTES);
      askItems(x, a, 1, 1, SHORTS);
      askItems(x, a, 3, 2, INTS);
    }
    for (int sheet = 0; sheet < 4; sheet++) a.add(x.drop(sheet));
  }

  /** An item is what is due if a flight of one HOUR that begins there is known: THE START pins it. */
  private static void askItems(SevenRings x, Answers a, int sheet, int lane, int[] due) {
    int last = due.length - 1;
    for (int i = 0; i < last; i++) {
      x.set(1, due[i]);
      a.add(Math.min(0, x.held(sheet, lane, i)));
    }
    // The last one has none behind it: it is brought ahead.
    x.set(1, due[last]);
    a.add(x.copy(sheet, last, sheet, 0, 1));
    a.add(x.item(sheet, lane, 1, due[last] < 50 ? due[last] + 10 : due[last] - 10));
    a.add(Math.min(0, x.held(sheet, lane, 0)));
  }

  /** What is asked tells something: of the fullest world no SHEET is amiss and ODDS are several. */
  static void isWorthAsking() {
    Check.holds("WAYS are several", TOLD.make().ways() > 20);
    Check.holds("ODDS are several", TOLD.make().count(4) > 3 && FULL.make().count(4) > 2);
    Check.due("no ODDS", NO_ODDS.make().count(4), 0);
    for (int assumption : new int[] {0, 1, 2, 7, 8, 9, 12}) {
      Check.holds("ASSUMPTION " + assumption + " moves", TOLD.make().moves(assumption) > 0);
    }
    for (int sheet : new int[] {0, 1, 3}) {
      int[] due = sheet == 0 ? BYTES : sheet == 1 ? SHORTS : INTS;
      Answers a = new Answers();
      SevenRings x = TOLD.make();
      x.set(2, 1);
      askItems(x, a, sheet, sheet == 3 ? 2 : sheet, due);
      for (int i = 0; i < due.length - 1; i++) Check.due("item " + i + " of SHEET " + sheet, a.row[i], 0);
      Check.due("the last item of SHEET " + sheet, a.row[a.n - 1], 0);
    }
  }
}
