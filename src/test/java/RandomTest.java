import java.util.Random;

/** Long runs of calls that chance picks (the same each time), held against the Oracle. */
public final class RandomTest {
  /** An object is used for at most 512 calls; one round of the loop takes at most some 110. */
  private static final int RUNS = 1200, CALLS = 400;
  private static Random chance;
  private static SevenRings x;
  private static Oracle o;
  private static int run;
  private static int calls;

  public static void main(String[] args) {
    for (run = 0; run < RUNS; run++) {
      chance = new Random(7000 + run);
      x = new SevenRings();
      o = new Oracle();
      calls = 0;
      prepare();
      // Each round counts for one at least, so that those which ask nothing end, too.
      while (calls < CALLS) {
        calls++;
        call();
      }
    }
    Check.end();
  }

  private static int of(int n) { return chance.nextInt(n); }

  /** A number from a to b; seldom one just beyond, or far off. */
  private static int about(int a, int b) {
    int luck = of(60);
    if (luck == 0) return a - 1;
    if (luck == 1) return b + 1;
    if (luck == 2) return chance.nextInt();
    if (luck == 3) return chance.nextBoolean() ? a : b;
    return a + of(b - a + 1);
  }

  private static void due(String call, long got, long want) {
    calls++;
    Check.due("run " + run + ": " + call, got, want);
  }

  /** What the object answered to a call that is only made to pick what to ask. */
  private static int seen(int answer) {
    calls++;
    return answer;
  }

  /** Half of the runs begin with a world in which something can be found. */
  private static void prepare() {
    if (run % 2 == 0) return;
    set(0, of(100));
    set(1, 10 * (2 + of(6)) + 2 + of(6));
    set(2, 1 + of(6));
    set(3, of(3));
    set(4, of(2));
    for (int season = 0; season < 2; season++) {
      int course = of(9);
      for (int row = 0; row < 10; row++) {
        StringBuilder text = new StringBuilder();
        for (int c = 0; c < 10; c++) text.append((char) ('0' + (of(3) == 0 ? of(9) : course)));
        type(text.substring(0, 8));
        type(text.substring(8));
        due("sea", x.sea(season, row), o.sea(season, row));
      }
      for (int i = 0; i < 60; i++) cell(season, of(100), 1, of(10));
    }
    likelyRings();
  }

  /** RINGS near those of some WAY. */
  private static void likelyRings() {
    for (int h = 1; h <= 6; h++) {
      due("ring", x.ring(h, 0, -1), o.ring(h, 0, -1));
      due("ring", x.ring(h, 1, 0), o.ring(h, 1, 0));
    }
    int all = x.ways();
    due("ways", all, o.ways());
    if (all <= 0) return;
    int i = of(all);
    int[] fars = new int[7];
    int last = 0;
    for (int h = 0; h <= 6 && seen(x.way(i, h)) >= 0; h++) {
      fars[h] = seen(x.far(seen(x.way(i, h))));
      last = h;
    }
    for (int h = 1; h <= last; h++) {
      if (of(3) > 0) ring(h, 0, Math.max(0, fars[h] + of(3) - 1));
      if (of(4) == 0 && fars[h] != fars[h - 1]) ring(h, 1, fars[h] < fars[h - 1] ? 1 : 2);
    }
  }

  private static void set(int what, int v) { due("set(" + what + ", " + v + ")", x.set(what, v), o.set(what, v)); }

  private static void ring(int h, int what, int v) {
    due("ring(" + h + ", " + what + ", " + v + ")", x.ring(h, what, v), o.ring(h, what, v));
  }

  private static void cell(int season, int cell, int what, int v) {
    due("cell(" + season + ", " + cell + ", " + what + ", " + v + ")", x.cell(season, cell, what, v), o.cell(season, cell, what, v));
  }

  private static void type(String text) {
    long w = Check.word(text);
    due("type " + text, x.type(w, text.length()), o.type(w, text.length()));
  }

  private static void call() {
    switch (of(4)) {
      case 0: tell(); break;
      case 1: ask(); break;
      case 2: askMore(); break;
      default: sheets();
    }
  }

  private static void tell() {
    switch (of(14)) {
      case 0: {
        int what = about(0, 7);
        int[] most = {99, 99, 6, 2, 1, 60, 3, 8};
        set(what, about(what == 2 ? 1 : 0, what >= 0 && what < 8 ? most[what] : 9));
        break;
      }
      case 1: ring(about(1, 6), 0, about(-1, 40)); break;
      case 2: ring(about(1, 6), 1, about(0, 2)); break;
      case 3: ring(about(1, 6), about(0, 1), about(-1, 20)); break;
      case 4: likelyRings(); break;
      case 5: rings(); break;
      case 6: sea(); break;
      case 7: cell(about(0, 1), about(0, 99), about(0, 1), about(0, 9)); break;
      case 8: {
        int cell = about(0, 99);
        int v = about(1, 9);
        due("depth(" + cell + ", " + v + ")", x.depth(cell, v), o.depth(cell, v));
        break;
      }
      case 9: piece(); break;
      case 10: {
        int cell = of(2) == 0 ? Math.max(0, seen(x.next())) : about(0, 99);
        int eighths = about(1, 7);
        due("drag(" + cell + ", " + eighths + ")", x.drag(cell, eighths), o.drag(cell, eighths));
        break;
      }
      case 11: due("clear()", x.clear(), o.clear()); break;
      case 12: due("image()", x.image(), o.image()); break;
      default: due("restore()", x.restore(), o.restore());
    }
  }

  private static void piece() {
    int n = about(1, of(2) == 0 ? 4 : 24);
    int high = about(0, 1);
    int next = seen(x.next());
    int cell = of(3) == 0 || next < 0 ? about(0, 99) : Math.max(0, seen(x.drift(next, n, high)));
    int age = of(2) == 0 ? 0 : about(0, Math.max(n, 1));
    int need = about(0, 9);
    due("piece(" + cell + ", " + n + ", " + high + ", " + age + ", " + need + ")",
        x.piece(cell, n, high, age, need), o.piece(cell, n, high, age, need));
  }

  private static void rings() {
    StringBuilder text = new StringBuilder();
    for (int h = 1; h <= 6; h++) {
      if (of(2) == 0) continue;
      if (text.length() > 0) text.append(';');
      if (of(6) == 0) text.append('0');
      text.append(h).append(':').append(of(4) == 0 ? "?" : String.valueOf(of(of(5) == 0 ? 60 : 27)));
      text.append(new String[] {"", "", "", "+", "-"}[of(5)]);
    }
    spoil(text, "0123456789:;?+- *");
    write(text);
    due("rings of " + text, x.rings(), o.rings());
  }

  private static void sea() {
    StringBuilder text = new StringBuilder();
    for (int c = 0; c < 10; c++) text.append(of(9));
    spoil(text, "0123456789 +");
    write(text);
    int season = about(0, 1);
    int row = about(0, 9);
    due("sea(" + season + ", " + row + ") of " + text, x.sea(season, row), o.sea(season, row));
  }

  private static void spoil(StringBuilder text, String signs) {
    for (int i = of(4) - 1; i > 0; i--) text.insert(of(text.length() + 1), ' ');
    if (of(3) > 0) return;
    int at = of(text.length() + 1);
    if (of(2) == 0) text.insert(at, signs.charAt(of(signs.length())));
    else if (at < text.length() && of(2) == 0) text.setCharAt(at, signs.charAt(of(signs.length())));
    else if (at < text.length()) text.deleteCharAt(at);
  }

  private static void write(StringBuilder text) {
    for (int i = 0; i < text.length(); i += 8) type(text.substring(i, Math.min(text.length(), i + 8)));
    if (of(20) == 0) {
      long w = chance.nextLong();
      int n = about(1, 8);
      due("type(" + w + ", " + n + ")", x.type(w, n), o.type(w, n));
    }
  }

  private static void ask() {
    int cell = about(0, 99);
    int n = about(0, 24);
    int high = about(0, 1);
    int part = about(0, 1);
    switch (of(10)) {
      case 0: due("far(" + cell + ")", x.far(cell), o.far(cell)); break;
      case 1: due("ways()", x.ways(), o.ways()); break;
      case 2: due("weight()", x.weight(), o.weight()); break;
      case 3: case 4: {
        int all = Math.max(1, seen(x.ways()));
        int i = about(0, all);
        for (int k = 0; k < 3; k++) {
          int hour = about(-3, 6);
          due("way(" + i + ", " + hour + ")", x.way(i, hour), o.way(i, hour));
        }
        break;
      }
      case 5: {
        int hour = about(0, 6);
        for (int row = -1; row <= 10; row++) due("may(" + hour + ", " + row + ")", x.may(hour, row), o.may(hour, row));
        break;
      }
      case 6: due("drift(" + cell + ", " + n + ", " + high + ")", x.drift(cell, n, high), o.drift(cell, n, high)); break;
      case 7: {
        int piece = about(0, 3);
        for (int k = 0; k < 100; k++) due("fits(" + piece + ", " + k + ")", x.fits(piece, k), o.fits(piece, k));
        due("fits(" + piece + ", " + cell + ")", x.fits(piece, cell), o.fits(piece, cell));
        break;
      }
      case 8: odds(cell, part); break;
      default: odds(Math.max(0, seen(x.next())), part);
    }
  }

  private static void odds(int cell, int part) {
    due("odds(" + cell + ", " + part + ")", x.odds(cell, part), o.odds(cell, part));
  }

  private static void askMore() {
    switch (of(7)) {
      case 0: for (int row = -1; row <= 10; row++) due("where(" + row + ")", x.where(row), o.where(row)); break;
      case 1: for (int what = -1; what <= 5; what++) due("count(" + what + ")", x.count(what), o.count(what)); break;
      case 2: case 3: {
        int assumption = about(0, 12);
        due("moves(" + assumption + ")", x.moves(assumption), o.moves(assumption));
        break;
      }
      case 4: if (of(3) == 0) due("most()", x.most(), o.most()); break;
      case 5: due("next()", x.next(), o.next()); break;
      default: {
        int n = about(0, 24);
        int high = about(0, 1);
        int part = about(0, 1);
        int next = seen(x.next());
        int cell = next < 0 || of(3) == 0 ? about(0, 99) : seen(x.drift(next, n, high));
        due("should(" + cell + ", " + n + ", " + high + ", " + part + ")",
            x.should(cell, n, high, part), o.should(cell, n, high, part));
      }
    }
  }

  private static void sheets() {
    int sheet = about(0, 3);
    int lane = about(0, 2);
    int i = about(0, 4);
    switch (of(9)) {
      case 0: {
        int n = about(0, 16);
        due("sheet(" + sheet + ", " + lane + ", " + n + ")", x.sheet(sheet, lane, n), o.sheet(sheet, lane, n));
        break;
      }
      case 1: if (of(4) == 0) due("drop(" + sheet + ")", x.drop(sheet), o.drop(sheet)); break;
      case 2: case 3: {
        int v = of(4) == 0 ? chance.nextInt() : about(0, 99) + (of(4) == 0 ? 256 : 0);
        int at = about(0, 15);
        due("item(" + sheet + ", " + lane + ", " + at + ", " + v + ")", x.item(sheet, lane, at, v), o.item(sheet, lane, at, v));
        break;
      }
      case 4: case 5: {
        int k = about(0, Math.max(1, seen(x.ways())));
        due("film(" + k + ", " + sheet + ", " + lane + ", " + i + ")", x.film(k, sheet, lane, i), o.film(k, sheet, lane, i));
        due("held", x.held(sheet, lane, i), o.held(sheet, lane, i));
        break;
      }
      case 6: due("held(" + sheet + ", " + lane + ", " + i + ")", x.held(sheet, lane, i), o.held(sheet, lane, i)); break;
      default: {
        int to = of(3) == 0 ? sheet : about(0, 3);
        int j = about(0, 16);
        int n = about(0, 8);
        due("copy(" + sheet + ", " + i + ", " + to + ", " + j + ", " + n + ")", x.copy(sheet, i, to, j, n), o.copy(sheet, i, to, j, n));
      }
    }
  }
}
