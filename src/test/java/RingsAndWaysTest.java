/** Promises 1 to 10: a new object, what is set, RINGS and their TEXT, WAYS told one by one. */
public final class RingsAndWaysTest {
  private static final int BAD = SevenRings.BAD, FULL = SevenRings.FULL, NONE = SevenRings.NONE;

  public static void main(String[] args) {
    newObject();
    set();
    far();
    ring();
    type();
    goodTexts();
    faults();
    textsChangeOnlyTheirHours();
    waysOfOneHour();
    waysOfTwoHours();
    orderOfWays();
    fuel();
    tones();
    ringsGive();
    wayAnswers();
    may();
    Check.end();
  }

  private static void due(String call, long got, long want) { Check.due(call, got, want); }

  /** An object with so many HOURS from a START, seen from an EYE. */
  private static SevenRings made(int eye, int start, int hours) {
    SevenRings x = new SevenRings();
    x.set(0, eye);
    x.set(1, start);
    x.set(2, hours);
    return x;
  }

  private static void newObject() {
    SevenRings x = new SevenRings();
    int[] first = {0, 0, 6, 1, 0, 60, 1, 8};
    for (int what = 0; what < 8; what++) due("1 set " + what, x.set(what, first[what]), first[what]);
    for (int hour = 1; hour <= 6; hour++) {
      due("1 how far " + hour, x.ring(hour, 0, -1), 99);
      due("1 tone " + hour, x.ring(hour, 1, 0), 100);
    }
    for (int cell = 0; cell < 100; cell++) due("1 depth", x.depth(cell, 1), 1);
    for (int what = 0; what < 4; what++) due("1 count " + what, x.count(what), 0);
    for (int sheet = 0; sheet < 4; sheet++) due("1 sheet", x.drop(sheet), SevenRings.NULL);
    due("1 image", x.restore(), NONE);
    due("1 tape", x.rings(), -20);
    due("1 clear", x.clear(), 0);
    x = new SevenRings();
    for (int cell = 0; cell < 100; cell++) {
      for (int season = 0; season < 2; season++) {
        due("1 current", x.cell(season, cell, 0, 8), 8);
        due("1 warmth", x.cell(season, cell, 1, 0), 0);
      }
    }
  }

  private static void set() {
    int[] least = {0, 0, 1, 0, 0, 0, 0, 0};
    int[] most = {99, 99, 6, 2, 1, 60, 3, 8};
    SevenRings x = new SevenRings();
    for (int what = 0; what < 8; what++) {
      x.set(what, most[what]);
      due("2 too low " + what, x.set(what, least[what] - 1), BAD);
      due("2 too high " + what, x.set(what, most[what] + 1), BAD);
      due("2 far too high " + what, x.set(what, Integer.MAX_VALUE), BAD);
      due("2 far too low " + what, x.set(what, Integer.MIN_VALUE), BAD);
      due("2 least " + what, x.set(what, least[what]), most[what]);
      due("2 most " + what, x.set(what, most[what]), least[what]);
    }
    due("2 no such", x.set(-1, 1), BAD);
    due("2 no such", x.set(8, 1), BAD);
  }

  private static void far() {
    SevenRings x = new SevenRings();
    due("3", x.far(99), 25);
    x.set(0, 55);
    due("3 here", x.far(55), 0);
    due("3 beside", x.far(44), 2);
    due("3 beside", x.far(56), 2);
    due("3 corner", x.far(0), 14);
    due("3 a knight's leap", x.far(36), 4);
    due("3 five", x.far(19), 11);
    due("3", x.far(-1), BAD);
    due("3", x.far(100), BAD);
    x.image();
    x.set(0, 0);
    x.restore();
    due("3 restored", x.far(55), 0);
  }

  private static void ring() {
    SevenRings x = new SevenRings();
    due("4", x.ring(6, 0, 40), 99);
    due("4", x.ring(6, 0, 0), 140);
    due("4", x.ring(6, 0, -1), 100);
    due("4", x.ring(6, 1, 2), 100);
    due("4", x.ring(6, 1, 1), 102);
    due("4", x.ring(6, 1, 0), 101);
    int[][] bad = {{0, 0, 1}, {7, 0, 1}, {-1, 1, 1}, {1, -1, 1}, {1, 2, 1}, {1, 0, 41}, {1, 0, -2}, {1, 1, 3}, {1, 1, -1},
        {Integer.MIN_VALUE, 0, 0}, {Integer.MAX_VALUE, 0, 0}};
    for (int[] b : bad) due("4 bad", x.ring(b[0], b[1], b[2]), BAD);
    due("4 unchanged", x.ring(1, 0, -1), 99);
    due("4 unchanged", x.ring(1, 1, 0), 100);
  }

  private static void type() {
    SevenRings x = new SevenRings();
    due("5 n", x.type(65, 0), BAD);
    due("5 n", x.type(65, 9), BAD);
    due("5 n", x.type(65, -1), BAD);
    due("5 n", x.type(65, Integer.MIN_VALUE), BAD);
    due("5 byte 31", x.type(31, 1), BAD);
    due("5 byte 127", x.type(127, 1), BAD);
    due("5 byte 0 ahead", x.type(65, 2), BAD);
    due("5 byte 255", x.type(-1L, 8), BAD);
    due("5 higher bytes are not looked at", x.type(0xFF41L, 1), 1);
    due("5 edges", x.type(0x207EL, 2), 3);
    due("5 all was a text", x.rings(), -20);
    // Of the bytes the highest comes first: 2:7 is read, 7:2 would be a FAULT.
    due("5 order", x.type(Check.word("2:7"), 3), 3);
    due("5 order", x.rings(), 1);
    for (int i = 1; i <= 7; i++) due("5 fills", x.type(Check.word("        "), 8), 8 * i);
    due("5 full", x.type(Check.word("     "), 5), FULL);
    due("5 bad ahead of full", x.type(5, 5), BAD);
    due("5 up to 60", x.type(Check.word("1:2 "), 4), 60);
    due("5 full", x.type(32, 1), FULL);
    due("5 sixty bytes", x.rings(), 1);
    due("5 ring", x.ring(1, 0, -1), 102);
    due("5 empty again", x.type(32, 1), 1);
  }

  private static void goodTexts() {
    SevenRings x = new SevenRings();
    due("6", Check.rings(x, "1:0"), 1);
    due("6", Check.rings(x, "6:40+"), 1);
    due("6", Check.rings(x, "2:?-;5:?"), 2);
    due("6 sum", x.count(0), 2);
    due("6 sum", x.count(1), 2);
    due("6 from", x.ring(6, 1, 0), 102);
    due("6 to", x.ring(2, 1, 0), 101);
    due("6 nulls ahead", Check.rings(x, "1:00000000000000000000000000000000000000000007"), 1);
    due("6", x.ring(1, 0, -1), 107);
    due("6 blanks", Check.rings(x, "  3  :  12  +  ;  4  :  ?  "), 2);
    due("6", x.ring(3, 0, -1), 112);
    due("6", x.ring(3, 1, 0), 102);
    due("6 all", Check.rings(x, "1:1;2:2;3:3;4:4;5:5;6:6"), 6);
    due("6", x.count(0), 6);
    due("6 an HOUR is a number, too", Check.rings(x, "03:7;004:?+"), 2);
    due("6", x.count(0), 5);
    due("6", x.ring(3, 0, -1), 107);
  }

  private static void faults() {
    Object[][] texts = {
      {"", 0}, {"   ", 3}, {"x", 0}, {"  x", 2}, {"0:1", 0}, {"7:1", 0}, {"00:1", 0}, {"1", 1}, {"1 ", 2}, {"1;", 1},
      {"1:", 2}, {"1:  ", 4}, {"1: +", 3}, {"1:41", 2}, {"1: 041", 3}, {"1:99999999999999999999999999", 2},
      {"1:4294967296", 2}, {"1:5 5", 4}, {"1:??", 3}, {"1:?5", 3}, {"1:5?", 3}, {"1:5+-", 4}, {"1:5++", 4}, {"1:5*", 3},
      {"1:-5", 2}, {"1:5;", 4}, {"1:5 ; ", 6}, {"1:5;;", 4}, {"2:5;2:5", 4}, {"2:5;1:5", 4}, {"6:5;", 4}, {"6:5;7:1", 4},
      {"6:5;6:1", 4}, {"6:5 ;  x", 7}, {"1:1;2:2;3:3;4:4;5:5;6:6;", 23}, {"1:1;2:2;3:3;4:4;5:5;6:6 7", 24},
      {"1:1;2:2;3:3;4:4;5:5;6:60", 22}, {"1 1:5", 2}, {"1:5+5", 4}, {"1:5:", 3}, {"12:5", 0}, {"1::5", 2}, {";1:5", 0}};
    for (Object[] t : texts) {
      SevenRings x = new SevenRings();
      x.ring(1, 0, 9);
      x.ring(1, 1, 2);
      due("6 fault of '" + t[0] + "'", Check.rings(x, (String) t[0]), -20 - (Integer) t[1]);
      due("6 the tape is empty then", x.type(32, 1), 1);
      due("6 rings stay", x.count(0), 1);
      due("6 tones stay", x.count(1), 1);
      due("6 ring stays", x.ring(1, 0, 9), 109);
    }
  }

  private static void textsChangeOnlyTheirHours() {
    SevenRings x = made(55, 55, 1);
    due("6", Check.rings(x, "1:2+;3:4-"), 2);
    due("6 ways follow", x.ways(), 8);
    due("6", Check.rings(x, "3:?"), 1);
    due("6 kept", x.ring(1, 0, 2), 102);
    due("6 kept", x.ring(1, 1, 2), 102);
    due("6 gone", x.ring(3, 0, -1), 99);
    due("6 a tone that is not said is none", x.ring(3, 1, 0), 100);
    due("6", Check.rings(x, "1:4"), 1);
    due("6 ways follow", x.ways(), 8);
  }

  private static void waysOfOneHour() {
    SevenRings x = made(0, 55, 1);
    due("7", x.ways(), 24);
    due("8", x.weight(), 24 * 32);
    x.set(1, 0);
    due("7 beyond CELLS there is no way", x.ways(), 9);
    x.set(1, 99);
    due("7", x.ways(), 9);
    x.set(1, 9);
    due("7", x.ways(), 9);
    x.set(1, 5);
    due("7 an edge", x.ways(), 15);
  }

  /** From CELL 55 all can be counted by hand: 160 without SLOWED ones, 111 with. */
  private static void waysOfTwoHours() {
    SevenRings x = made(0, 55, 2);
    due("7", x.ways(), 160);
    due("8", x.weight(), 16 * 32 + 144 * 8);
    x.set(3, 0);
    due("7 straight", x.ways(), 16);
    due("8 straight", x.weight(), 16 * 32);
    x.set(3, 2);
    due("7 there is but one HOUR to turn at", x.ways(), 160);
    x.set(4, 1);
    due("7 slowed, too", x.ways(), 271);
    due("8 slowed, too", x.weight(), 2240);
    x.set(3, 0);
    due("7 slowed, straight", x.ways(), 16 + 11);
    due("8 slowed, straight", x.weight(), 16 * 32 + 11 * 16);
  }

  private static void orderOfWays() {
    SevenRings x = made(0, 55, 2);
    x.set(4, 1);
    // CELLS at HOURS 1 and 2, WEIGHT, turns, SLOWED.
    int[][] due = {{45, 35, 32, 0, 0}, {45, 36, 8, 1, 0}, {45, 46, 8, 1, 0}, {45, 56, 8, 1, 0}, {45, 55, 8, 1, 0},
        {45, 54, 8, 1, 0}, {45, 44, 8, 1, 0}, {45, 34, 8, 1, 0}, {35, 15, 32, 0, 0}, {35, 25, 16, 0, 1},
        {35, 17, 8, 1, 0}, {35, 26, 4, 1, 1}, {35, 37, 8, 1, 0}, {35, 36, 4, 1, 1}};
    for (int i = 0; i < due.length; i++) {
      due("9 start", x.way(i, 0), 55);
      due("9 hour 1 of " + i, x.way(i, 1), due[i][0]);
      due("9 hour 2 of " + i, x.way(i, 2), due[i][1]);
      due("9 weight of " + i, x.way(i, -1), due[i][2]);
      due("9 turns of " + i, x.way(i, -2), due[i][3]);
      due("9 slowed of " + i, x.way(i, -3), due[i][4]);
    }
    due("9 the last", x.way(270, 1), 22);
    due("9 the last: turned to COURSE 6 and SLOWED", x.way(270, 2), 20);
    due("9 one more", x.way(271, 0), NONE);
    // Told in another order the same WAYS come.
    for (int i = due.length - 1; i >= 0; i--) due("9 backwards", x.way(i, 2), due[i][1]);
  }

  /** Of two HOURS PACE 1 needs 2, 2 needs 8 (SLOWED 5), 3 needs 18 (SLOWED 13). */
  private static void fuel() {
    SevenRings x = made(0, 55, 2);
    x.set(4, 1);
    int[][] due = {{0, 0}, {1, 0}, {2, 64}, {4, 64}, {5, 128}, {7, 128}, {8, 192}, {12, 192}, {13, 239}, {17, 239}, {18, 271}};
    for (int[] d : due) {
      x.set(5, d[0]);
      due("7 by fuel " + d[0], x.ways(), d[1]);
    }
    due("9 none by fuel", new SevenRings().way(100000, 0), NONE);
  }

  /** Seen from 50, 9 of 24 CELLS are less FAR than 55, 11 are more, 4 are the same. */
  private static void tones() {
    SevenRings x = made(50, 55, 1);
    x.ring(1, 1, 1);
    due("7 to", x.ways(), 9);
    x.ring(1, 1, 2);
    due("7 from", x.ways(), 11);
    x.ring(1, 1, 0);
    due("7 none", x.ways(), 24);
    x.ring(2, 1, 1);
    x.ring(2, 0, 40);
    due("7 beyond H", x.ways(), 24);
    x.set(2, 2);
    due("7 not beyond H", x.ways(), 0);
    due("20 counted all the same", x.count(0), 1);
  }

  private static void ringsGive() {
    SevenRings x = made(55, 55, 1);
    x.ring(1, 0, 2);
    due("7 just so", x.ways(), 8);
    due("8 just so", x.weight(), 8 * 64);
    x.ring(1, 0, 3);
    due("7 one less, one more", x.ways(), 12);
    due("8 one less, one more", x.weight(), 12 * 32);
    x.ring(1, 0, 4);
    due("7 PACE 2: straight ones just so, others one more", x.ways(), 8);
    due("8", x.weight(), 4 * 64 + 4 * 32);
    x.ring(1, 0, 0);
    due("7 two more", x.ways(), 0);
    due("8 none", x.weight(), 0);
    due("10 none", x.may(0, 5), 0);
    due("9 none", x.way(0, 0), NONE);
    x.ring(1, 0, -1);
    due("8 not told gives nothing more", x.weight(), 24 * 32);
  }

  private static void wayAnswers() {
    SevenRings x = made(0, 55, 3);
    due("9", x.way(-1, 0), BAD);
    due("9", x.way(Integer.MIN_VALUE, 0), BAD);
    due("9", x.way(0, 4), BAD);
    due("9", x.way(0, -4), BAD);
    due("9 bad ahead of none", x.way(1000000, 4), BAD);
    due("9", x.way(Integer.MAX_VALUE, 3), NONE);
    due("9", x.way(x.ways(), 3), NONE);
    due("9 the last", x.way(x.ways() - 1, 0), 55);
    due("9", x.way(0, 3), 25);
    x.set(1, 66);
    due("9 follows", x.way(0, 3), 36);
    x.ring(1, 0, 40);
    due("9 follows", x.way(0, 3), NONE);
  }

  private static void may() {
    SevenRings x = made(0, 55, 1);
    due("10", x.may(0, 5), 1 << 5);
    due("10", x.may(0, 4), 0);
    due("10", x.may(1, 5), 476);
    due("10", x.may(1, 2), 292);
    due("10", x.may(1, 9), 0);
    due("10", x.may(2, 5), BAD);
    due("10", x.may(-1, 5), BAD);
    due("10", x.may(0, -1), BAD);
    due("10", x.may(0, 10), BAD);
    x.set(2, 2);
    x.set(3, 0);
    // With PACE 3 no WAY of two HOURS is inside, so its CELLS of HOUR 1 are not in one.
    due("10 only CELLS of whole WAYS", x.may(1, 5), 8 | 16 | 64 | 128);
    x.set(5, 2);
    due("10 by fuel", x.may(1, 5), 16 | 64);
  }
}
