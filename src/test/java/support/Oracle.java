import java.math.BigInteger;
import java.util.ArrayList;
import java.util.Arrays;
import java.util.List;

/**
 * The document once more, in another shape: every call reckons all anew, every WAY is listed,
 * fractions are BigIntegers. Slow, and made only to be held against the class.
 */
final class Oracle {
  static final int BAD = -1, NOT = -2, FULL = -3, NONE = -4, NULL = -11, CAST = -12, INDEX = -13, SIZE = -14;
  private static final int[][] COURSE = {{-1, 0}, {-1, 1}, {0, 1}, {1, 1}, {1, 0}, {1, -1}, {0, -1}, {-1, -1}};
  private static final int[][] RANGE = {{0, 99}, {0, 99}, {1, 6}, {0, 2}, {0, 1}, {0, 60}, {0, 3}, {0, 8}};

  private static final class State {
    int[] set = {0, 0, 6, 1, 0, 60, 1, 8};
    int[] far = {-1, -1, -1, -1, -1, -1, -1};
    int[] tone = new int[7];
    int[][] current = new int[2][100];
    int[][] warmth = new int[2][100];
    int[] depth = new int[100];
    List<int[]> pieces = new ArrayList<>();
    List<int[]> drags = new ArrayList<>();

    State() {
      for (int[] row : current) Arrays.fill(row, 8);
      Arrays.fill(depth, 1);
    }

    State twin() {
      State t = new State();
      t.set = set.clone();
      t.far = far.clone();
      t.tone = tone.clone();
      t.current = new int[][] {current[0].clone(), current[1].clone()};
      t.warmth = new int[][] {warmth[0].clone(), warmth[1].clone()};
      t.depth = depth.clone();
      t.pieces = new ArrayList<>(pieces);
      t.drags = new ArrayList<>(drags);
      return t;
    }
  }

  /** A WAY: its CELLS, then what it weighs, its turns, whether it was SLOWED, its last COURSE. */
  private record Way(int[] cells, int weight, int turns, int slowed, int course) { }

  private State s = new State();
  private State image = null;
  private String tape = "";
  private final int[][] rows = new int[4][];
  private final int[] lanes = new int[4];

  private static boolean in(int v, int a, int b) { return v >= a && v <= b; }

  int set(int what, int v) {
    if (!in(what, 0, 7) || !in(v, RANGE[what][0], RANGE[what][1])) return BAD;
    int was = s.set[what];
    s.set[what] = v;
    return was;
  }

  private static int farOf(State t, int cell) {
    double r = t.set[0] / 10 - cell / 10;
    double c = t.set[0] % 10 - cell % 10;
    return (int) Math.floor(2 * Math.sqrt(r * r + c * c) + 1e-9);
  }

  int far(int cell) { return in(cell, 0, 99) ? farOf(s, cell) : BAD; }

  int ring(int hour, int what, int v) {
    if (!in(hour, 1, 6) || !in(what, 0, 1) || what == 0 && !in(v, -1, 40) || what == 1 && !in(v, 0, 2)) return BAD;
    int[] row = what == 0 ? s.far : s.tone;
    int was = row[hour];
    row[hour] = v;
    return 100 + was;
  }

  int type(long w, int n) {
    if (!in(n, 1, 8)) return BAD;
    String add = "";
    for (int i = 0; i < n; i++) {
      int b = (int) (w & 255);
      if (!in(b, 32, 126)) return BAD;
      add = (char) b + add;
      w >>= 8;
    }
    if (tape.length() + n > 60) return FULL;
    tape += add;
    return tape.length();
  }

  /** Signs of a text: a number as one, blanks left out; each is {place, kind or '0', value}. */
  private static List<int[]> signs(String text, boolean numbers) {
    List<int[]> out = new ArrayList<>();
    for (int i = 0; i < text.length(); ) {
      char c = text.charAt(i);
      if (c == ' ') { i++; continue; }
      if (c < '0' || c > '9') { out.add(new int[] {i, c, 0}); i++; continue; }
      int j = i + 1;
      while (numbers && j < text.length() && Character.isDigit(text.charAt(j))) j++;
      BigInteger v = new BigInteger(text.substring(i, j));
      out.add(new int[] {i, '0', v.min(BigInteger.valueOf(99999)).intValue()});
      i = j;
    }
    out.add(new int[] {text.length(), 0, 0});
    return out;
  }

  int rings() {
    List<int[]> all = signs(tape, true);
    tape = "";
    int[] far = s.far.clone();
    int[] tone = s.tone.clone();
    int i = 0;
    int hour = 0;
    for (int n = 1; ; n++) {
      int[] t = all.get(i++);
      if (t[1] != '0' || t[2] <= hour || t[2] > 6) return -20 - t[0];
      hour = t[2];
      t = all.get(i++);
      if (t[1] != ':') return -20 - t[0];
      t = all.get(i++);
      if (t[1] == '?') far[hour] = -1;
      else if (t[1] == '0' && t[2] <= 40) far[hour] = t[2];
      else return -20 - t[0];
      t = all.get(i++);
      tone[hour] = t[1] == '+' ? 2 : t[1] == '-' ? 1 : 0;
      if (tone[hour] != 0) t = all.get(i++);
      if (t[1] == 0) {
        s.far = far;
        s.tone = tone;
        return n;
      }
      if (t[1] != ';' || n == 6) return -20 - t[0];
    }
  }

  private static void grow(State t, List<Way> out, int[] cells, int[] legs, int hour) {
    int last = t.set[2];
    if (hour == last) { judge(t, out, cells, legs); return; }
    // Legs are 3 COURSE and PACE less 1: all are tried, and the rules are held against them at the end.
    for (int leg : order(legs, hour)) {
      int r = cells[hour] / 10 + COURSE[leg / 3][0] * (leg % 3 + 1);
      int c = cells[hour] % 10 + COURSE[leg / 3][1] * (leg % 3 + 1);
      if (!in(r, 0, 9) || !in(c, 0, 9)) continue;
      legs[hour] = leg;
      if (hour > 0 && (turnsOf(legs, hour) > t.set[3] || slowsOf(legs, hour) > t.set[4])) continue;
      cells[hour + 1] = 10 * r + c;
      grow(t, out, cells, legs, hour + 1);
    }
  }

  private static int[] order(int[] legs, int hour) {
    List<Integer> out = new ArrayList<>();
    if (hour == 0) {
      for (int leg = 0; leg < 24; leg++) out.add(leg);
    } else {
      int before = legs[hour - 1];
      out.add(before);
      if (before % 3 > 0) out.add(before - 1);
      for (int course = 0; course < 8; course++) {
        if (course == before / 3) continue;
        out.add(3 * course + before % 3);
        if (before % 3 > 0) out.add(3 * course + before % 3 - 1);
      }
    }
    return out.stream().mapToInt(x -> x).toArray();
  }

  private static int turnsOf(int[] legs, int upTo) {
    int n = 0;
    for (int h = 1; h <= upTo; h++) if (legs[h] / 3 != legs[h - 1] / 3) n++;
    return n;
  }

  private static int slowsOf(int[] legs, int upTo) {
    int n = 0;
    for (int h = 1; h <= upTo; h++) if (legs[h] % 3 != legs[h - 1] % 3) n++;
    return n;
  }

  private static void judge(State t, List<Way> out, int[] cells, int[] legs) {
    int last = t.set[2];
    int fuel = 0;
    for (int h = 0; h < last; h++) fuel += (legs[h] % 3 + 1) * (legs[h] % 3 + 1);
    if (fuel > t.set[5]) return;
    int turns = turnsOf(legs, last - 1);
    int slowed = slowsOf(legs, last - 1);
    int weight = 32;
    for (int i = 0; i < turns; i++) weight /= 4;
    for (int i = 0; i < slowed; i++) weight /= 2;
    for (int h = 1; h <= last; h++) {
      int now = farOf(t, cells[h]);
      int before = farOf(t, cells[h - 1]);
      if (t.tone[h] == 1 && !(now < before)) weight = 0;
      if (t.tone[h] == 2 && !(now > before)) weight = 0;
      if (t.far[h] >= 0) weight *= now == t.far[h] ? 2 : now == t.far[h] + 1 || now == t.far[h] - 1 ? 1 : 0;
    }
    if (weight > 0) out.add(new Way(Arrays.copyOf(cells, last + 1), weight, turns, slowed, legs[last - 1] / 3));
  }

  private static List<Way> list(State t) {
    List<Way> out = new ArrayList<>();
    int[] cells = new int[7];
    cells[0] = t.set[1];
    grow(t, out, cells, new int[6], 0);
    return out;
  }

  int ways() { return list(s).size(); }

  long weight() {
    long sum = 0;
    for (Way w : list(s)) sum += w.weight;
    return sum;
  }

  int way(int i, int hour) {
    if (i < 0 || !in(hour, -3, s.set[2])) return BAD;
    List<Way> all = list(s);
    if (i >= all.size()) return NONE;
    Way w = all.get(i);
    return hour == -1 ? w.weight : hour == -2 ? w.turns : hour == -3 ? w.slowed : w.cells[hour];
  }

  int may(int hour, int row) {
    if (!in(hour, 0, s.set[2]) || !in(row, 0, 9)) return BAD;
    int out = 0;
    for (Way w : list(s)) if (w.cells[hour] / 10 == row) out |= 1 << w.cells[hour] % 10;
    return out;
  }

  int sea(int season, int row) {
    if (!in(season, 0, 1) || !in(row, 0, 9)) return BAD;
    List<int[]> all = signs(tape, false);
    tape = "";
    for (int i = 0; i < 10; i++) {
      int[] t = all.get(i);
      if (t[1] != '0' || t[2] > 8) return -20 - t[0];
    }
    if (all.get(10)[1] != 0) return -20 - all.get(10)[0];
    int n = 0;
    for (int i = 0; i < 10; i++) {
      s.current[season][10 * row + i] = all.get(i)[2];
      if (all.get(i)[2] < 8) n++;
    }
    return n;
  }

  int cell(int season, int cell, int what, int v) {
    if (!in(season, 0, 1) || !in(cell, 0, 99) || !in(what, 0, 1) || !in(v, 0, 8 + what)) return BAD;
    int[] row = what == 0 ? s.current[season] : s.warmth[season];
    int was = row[cell];
    row[cell] = v;
    return was;
  }

  int depth(int cell, int v) {
    if (!in(cell, 0, 99) || !in(v, 1, 9)) return BAD;
    int was = s.depth[cell];
    s.depth[cell] = v;
    return was;
  }

  int piece(int cell, int n, int high, int age, int need) {
    if (!in(cell, 0, 99) || !in(n, 1, 24) || !in(high, 0, 1) || !in(age, 0, n) || !in(need, 0, 9)) return BAD;
    if (s.pieces.size() == 4) return FULL;
    s.pieces.add(new int[] {cell, n, high, age, need});
    return s.pieces.size() - 1;
  }

  private static int pushed(int cell, int course) {
    if (course == 8) return cell;
    int r = cell / 10 + COURSE[course][0];
    int c = cell % 10 + COURSE[course][1];
    return in(r, 0, 9) && in(c, 0, 9) ? 10 * r + c : cell;
  }

  /** Where a PIECE is at the beginning of each MONTH up to n. */
  private static int[] track(State t, int cell, int n, int high) {
    int[] out = new int[n + 1];
    out[0] = cell;
    for (int m = 0; m < n; m++) {
      int at = pushed(out[m], t.current[m % 2][out[m]]);
      out[m + 1] = high == 1 ? pushed(at, t.set[7]) : at;
    }
    return out;
  }

  int drift(int cell, int n, int high) {
    if (!in(cell, 0, 99) || !in(n, 0, 24) || !in(high, 0, 1)) return BAD;
    return track(s, cell, n, high)[n];
  }

  private static int fit(State t, int[] p, int cell) {
    int[] track = track(t, cell, p[1], p[2]);
    for (int m = p[1] - p[3]; m < p[1]; m++) if (t.warmth[m % 2][track[m]] < p[4]) return 0;
    int at = track[p[1]];
    if (at == p[0]) return 4;
    for (int course = 0; course < 8; course++) if (pushed(at, course) == p[0]) return 1;
    return 0;
  }

  int fits(int piece, int cell) {
    if (!in(piece, 0, s.pieces.size() - 1) || !in(cell, 0, 99)) return BAD;
    return fit(s, s.pieces.get(piece), cell);
  }

  int drag(int cell, int eighths) {
    if (!in(cell, 0, 99) || !in(eighths, 1, 7)) return BAD;
    if (s.drags.size() == 4) return FULL;
    s.drags.add(new int[] {cell, eighths});
    return s.drags.size() - 1;
  }

  private static BigInteger[] sums(State t) {
    BigInteger[] out = new BigInteger[101];
    long[] ends = new long[100];
    for (Way w : list(t)) {
      int at = w.cells[t.set[2]];
      ends[at] += 2L * w.weight;
      for (int g = 1; g <= t.set[6]; g++) {
        int on = pushed(at, w.course);
        if (on == at) break;
        at = on;
        ends[at] += w.weight;
      }
    }
    out[100] = BigInteger.ZERO;
    for (int cell = 0; cell < 100; cell++) {
      BigInteger sum = BigInteger.valueOf(ends[cell]);
      if (ends[cell] > 0) {
        for (int[] p : t.pieces) sum = sum.multiply(BigInteger.valueOf(fit(t, p, cell)));
        for (int[] d : t.drags) sum = sum.multiply(BigInteger.valueOf(d[0] == cell ? 8 - d[1] : 8));
      }
      out[cell] = sum;
      out[100] = out[100].add(sum);
    }
    return out;
  }

  private static long part(BigInteger above, BigInteger below, int part) {
    if (below.signum() == 0) return NONE;
    return (part == 0 ? above : below).divide(above.gcd(below)).longValueExact();
  }

  long odds(int cell, int part) {
    if (!in(cell, 0, 99) || !in(part, 0, 1)) return BAD;
    BigInteger[] all = sums(s);
    return part(all[cell], all[100], part);
  }

  int where(int row) {
    if (!in(row, 0, 9)) return BAD;
    BigInteger[] all = sums(s);
    int out = 0;
    for (int c = 0; c < 10; c++) if (all[10 * row + c].signum() > 0) out |= 1 << c;
    return out;
  }

  int count(int what) {
    if (!in(what, 0, 4)) return BAD;
    if (what == 2) return s.pieces.size();
    if (what == 3) return s.drags.size();
    int n = 0;
    if (what == 0) for (int h = 1; h <= 6; h++) if (s.far[h] >= 0) n++;
    if (what == 1) for (int h = 1; h <= 6; h++) if (s.tone[h] > 0) n++;
    if (what == 4) for (int row = 0; row < 10; row++) n += Integer.bitCount(where(row));
    return n;
  }

  int clear() {
    int n = s.pieces.size() + s.drags.size();
    s.pieces.clear();
    s.drags.clear();
    return n;
  }

  private State without(int assumption) {
    State t = s.twin();
    if (assumption <= 5) {
      t.far[assumption + 1] = -1;
      t.tone[assumption + 1] = 0;
    } else if (assumption == 6) {
      Arrays.fill(t.tone, 0);
    } else if (assumption == 7) {
      t.set[5] = 1000000;
    } else if (assumption == 12) {
      t.drags.clear();
    } else {
      t.pieces.remove(assumption - 8);
    }
    return t;
  }

  int moves(int assumption) {
    if (!in(assumption, 0, 12)) return BAD;
    if (in(assumption, 8, 11) && assumption - 8 >= s.pieces.size()) return BAD;
    BigInteger[] a = sums(s);
    BigInteger[] b = sums(without(assumption));
    if (a[100].signum() == 0 && b[100].signum() == 0) return 0;
    if (a[100].signum() == 0 || b[100].signum() == 0) return 1000;
    int sum = 0;
    BigInteger thousand = BigInteger.valueOf(1000);
    for (int cell = 0; cell < 100; cell++) {
      int x = a[cell].multiply(thousand).divide(a[100]).intValueExact();
      int y = b[cell].multiply(thousand).divide(b[100]).intValueExact();
      sum += Math.abs(x - y);
    }
    return sum;
  }

  int most() {
    int best = 0;
    for (int a = 1; a <= 12; a++) if (moves(a) > moves(best)) best = a;
    return best;
  }

  int next() {
    BigInteger[] all = sums(s);
    int best = NONE;
    for (int cell = 99; cell >= 0; cell--) {
      final int here = cell;
      if (all[cell].signum() == 0 || s.drags.stream().anyMatch(d -> d[0] == here)) continue;
      if (best == NONE || all[cell].multiply(BigInteger.valueOf(s.depth[best]))
          .compareTo(all[best].multiply(BigInteger.valueOf(s.depth[cell]))) >= 0) best = cell;
    }
    return best;
  }

  long should(int cell, int n, int high, int part) {
    if (!in(cell, 0, 99) || !in(n, 0, 24) || !in(high, 0, 1) || !in(part, 0, 1)) return BAD;
    BigInteger[] all = sums(s);
    BigInteger there = BigInteger.ZERO;
    for (int end = 0; end < 100; end++) if (track(s, end, n, high)[n] == cell) there = there.add(all[end]);
    return part(there, all[100], part);
  }

  private int wrongRow(int sheet, int lane, int i, int n) {
    if (!in(sheet, 0, 3) || !in(lane, 0, 2)) return BAD;
    if (rows[sheet] == null) return NULL;
    if (lanes[sheet] != lane) return CAST;
    if (i < 0 || (long) i + n > rows[sheet].length) return INDEX;
    return 0;
  }

  int held(int sheet, int lane, int i) {
    int last = s.set[2];
    int wrong = wrongRow(sheet, lane, i, last + 1);
    if (wrong < 0) return wrong;
    int[] flight = Arrays.copyOfRange(rows[sheet], i, i + last + 1);
    State t = s.twin();
    Arrays.fill(t.far, -1);
    Arrays.fill(t.tone, 0);
    t.pieces.clear();
    t.drags.clear();
    boolean known = false;
    for (Way w : list(t)) known |= Arrays.equals(w.cells, flight);
    if (!known) return NOT;
    for (int h = 1; h <= last; h++) t.far[h] = farOf(t, flight[h]);
    BigInteger[] all = sums(t);
    int n = 0;
    for (int cell = 0; cell < 100; cell++) if (all[cell].compareTo(all[flight[last]]) > 0) n++;
    return n;
  }

  int image() {
    image = s.twin();
    return 1;
  }

  int restore() {
    if (image == null) return NONE;
    s = image.twin();
    return 1;
  }

  int sheet(int sheet, int lane, int n) {
    if (!in(sheet, 0, 3) || !in(lane, 0, 2) || n > 16) return BAD;
    if (n < 0) return SIZE;
    rows[sheet] = new int[n];
    lanes[sheet] = lane;
    return n;
  }

  int drop(int sheet) {
    if (!in(sheet, 0, 3)) return BAD;
    if (rows[sheet] == null) return NULL;
    int n = rows[sheet].length;
    rows[sheet] = null;
    return n;
  }

  int item(int sheet, int lane, int i, int v) {
    int wrong = wrongRow(sheet, lane, i, 1);
    if (wrong < 0) return wrong;
    rows[sheet][i] = lane == 0 ? (byte) v : lane == 1 ? (short) v : v;
    return 1;
  }

  int film(int k, int sheet, int lane, int i) {
    if (k < 0) return BAD;
    int wrong = wrongRow(sheet, lane, i, s.set[2] + 1);
    if (wrong < 0) return wrong;
    List<Way> all = list(s);
    if (k >= all.size()) return NOT;
    System.arraycopy(all.get(k).cells, 0, rows[sheet], i, s.set[2] + 1);
    return s.set[2] + 1;
  }

  int copy(int from, int i, int to, int j, int n) {
    if (!in(from, 0, 3) || !in(to, 0, 3)) return BAD;
    if (rows[from] == null || rows[to] == null) return NULL;
    if (lanes[from] != lanes[to]) return CAST;
    if (i < 0 || j < 0 || n < 0 || (long) i + n > rows[from].length || (long) j + n > rows[to].length) return INDEX;
    int[] taken = Arrays.copyOfRange(rows[from], i, i + n);
    System.arraycopy(taken, 0, rows[to], j, n);
    return n;
  }
}
