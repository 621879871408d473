/** The TEXTS of section 3: RINGS and SEAS, and THE TAPE that has them. Promises 5, 6 and 11. */
public final class TextEdgesTest {
  private static final int FULL = SevenRings.FULL;

  public static void main(String[] args) {
    clauses();
    semicolons();
    hours();
    numbers();
    noughtsAhead();
    blanks();
    tones();
    firstByteThatCant();
    ringsBecomeSo();
    allOrNothing();
    sixtyBytes();
    allShortTexts();
    seaDigits();
    seaLengths();
    seaBlanks();
    seaRows();
    tapeIsOne();
    Check.end();
  }

  private static void due(String call, long got, long want) { Check.due(call, got, want); }

  private static void reads(String text, int clauses) {
    SevenRings x = new SevenRings();
    due("6 '" + text + "'", Check.rings(x, text), clauses);
    due("6 the tape is empty", x.type(' ', 1), 1);
  }

  /** A FAULT at a place; the tape is empty, and RINGS are as they were. */
  private static void fault(String text, int place) {
    SevenRings x = new SevenRings();
    for (int hour = 1; hour <= 6; hour++) {
      x.ring(hour, 0, 20 + hour);
      x.ring(hour, 1, 2);
    }
    due("6 '" + text + "'", Check.rings(x, text), -20 - place);
    due("6 the tape is empty by '" + text + "'", x.type(' ', 1), 1);
    for (int hour = 1; hour <= 6; hour++) {
      due("6 HOW FAR stays", x.ring(hour, 0, 0), 120 + hour);
      due("6 TONE stays", x.ring(hour, 1, 0), 102);
    }
  }

  /** "1 to 6 CLAUSES with ; between". */
  private static void clauses() {
    fault("", 0);
    String text = "";
    for (int n = 1; n <= 6; n++) {
      text += (n > 1 ? ";" : "") + n + ":" + n;
      reads(text, n);
    }
    fault(text + ";", 23);
    fault(text + ";7:1", 23);
    fault(text + " ;", 24);
    fault(text + ":", 23);
    fault("1:1 2:2", 4);
    fault("1:1,2:2", 3);
    fault(";1:1", 0);
  }

  /** "(it can stand behind each but the sixth, behind an HOUR 6, too)": then what comes behind it can't. */
  private static void semicolons() {
    fault("6:1;", 4);
    fault("6:1; ", 5);
    fault("6:1;6:1", 4);
    fault("6:1;5:1", 4);
    fault("6:1;7:1", 4);
    fault("6:1;x", 4);
    fault("1:1;6:1;", 8);
    fault("1:1;6:1;6", 8);
    fault("1:1;;", 4);
    fault("1:1;2:2;3:3;4:4;6:6;", 20);
    fault("1:1;2:2;3:3;4:4;6:6;6", 20);
    fault("1:1;2:2;3:3;4:4;5:5;", 20);
  }

  /** "an HOUR (1 .. 6, each later than the one ahead)". */
  private static void hours() {
    for (int hour = 0; hour <= 9; hour++) {
      if (hour >= 1 && hour <= 6) reads(hour + ":9", 1);
      else fault(hour + ":9", 0);
    }
    for (int first = 1; first <= 6; first++) {
      for (int second = 0; second <= 9; second++) {
        String text = first + ":?;" + second + ":?";
        if (second > first && second <= 6) reads(text, 2);
        else fault(text, 4);
      }
    }
    fault("-1:5", 0);
    fault("+1:5", 0);
    fault("?:5", 0);
    fault(":5", 0);
    fault("10:5", 0);
    fault("60:5", 0);
    fault("16:5", 0);
    fault("4294967297:5", 0);
  }

  /** "a number (0 .. 40) or ?"; "of a number that may not be its first byte". */
  private static void numbers() {
    for (int far = 0; far <= 99; far++) {
      if (far <= 40) {
        SevenRings x = new SevenRings();
        due("6 " + far, Check.rings(x, "3:" + far), 1);
        due("6 " + far, x.ring(3, 0, 0), 100 + far);
      } else {
        fault("3:" + far, 2);
      }
    }
    reads("1:?", 1);
    fault("1:400", 2);
    fault("1: 41 ", 3);
    fault("1:256", 2);
    fault("1:65536", 2);
    fault("1:4294967296", 2);
    fault("1:4294967301", 2);
    fault("1:18446744073709551616", 2);
    fault("1:99999999999999999999999999999999999999999999999999999999", 2);
    fault("1:41x", 2);
    fault("1:41;2:5", 2);
    fault("2:5;3:41", 6);
    fault("1:-1", 2);
    fault("1:+1", 2);
    fault("1:", 2);
    fault("1:;", 2);
    fault("1:??", 3);
    fault("1:?1", 3);
    fault("1:1?", 3);
  }

  /** "a number may have 0s ahead". */
  private static void noughtsAhead() {
    reads("1:00", 1);
    reads("1:040", 1);
    reads("1:0000000000000000000000000000000000000000000000000000000040", 1);
    fault("1:0000000000000000000000000000000000000000000000000000000041", 2);
    fault("1:0041", 2);
    // An HOUR is a number, too.
    reads("01:5", 1);
    reads("0001:5;006:7", 2);
    fault("00:5", 0);
    fault("07:5", 0);
    fault("02:5;01:5", 5);
  }

  /** "bytes 32 count for nothing, but end a number"; "(the end: how many bytes there are)". */
  private static void blanks() {
    reads("   1   :   4   +   ;   2   :   ?   -   ", 2);
    fault(" ", 1);
    fault("      ", 6);
    fault("1 ", 2);
    fault("1:  ", 4);
    fault("1:1 ;  ", 7);
    fault("1:4 0", 4);
    fault("1:0 0", 4);
    fault("1:4  0 ", 5);
    fault("0 1:5", 0);
    fault("1 0:5", 2);
    fault("1:5   x", 6);
    fault("   x", 3);
    fault("  7:5", 2);
    fault("1:  41", 4);
    fault("1:? ?", 4);
    fault("1:5+ +", 5);
  }

  /** "then perhaps + (from) or - (to)". */
  private static void tones() {
    String[] texts = {"4:7", "4:7-", "4:7+", "4:?", "4:?-", "4:?+"};
    for (int i = 0; i < 6; i++) {
      for (int had = 0; had <= 2; had++) {
        SevenRings x = new SevenRings();
        x.ring(4, 0, 33);
        x.ring(4, 1, had);
        due("6 " + texts[i], Check.rings(x, texts[i]), 1);
        due("6 HOW FAR by " + texts[i], x.ring(4, 0, 0), i < 3 ? 107 : 99);
        due("6 TONE by " + texts[i], x.ring(4, 1, 0), 100 + i % 3);
      }
    }
    fault("1:5++", 4);
    fault("1:5+-", 4);
    fault("1:5-+", 4);
    fault("1:5-5", 4);
    fault("1:5-?", 4);
    fault("1:5-:", 4);
    fault("1+:5", 1);
    fault("1:+", 2);
  }

  /** Every sign put in at every place of a TEXT that may be: it can't stand there, or what it is put ahead of can't. */
  private static void firstByteThatCant() {
    String good = "1:12+;3:?-;6:40";
    // The signs that can stand at each place; digits are left out, for they lengthen a number or begin one.
    String[] let = {"", ":", "?", "+-;", "+-;", ";", "", ":", "?", "+-;", ";", "", ":", "?", "+-;", "+-;"};
    for (int place = 0; place <= good.length(); place++) {
      for (char c = 33; c <= 126; c++) {
        if (c >= '0' && c <= '9') continue;
        // Two CLAUSES of one, and a TONE at the end, are told below.
        if (place == 3 && c == ';' || place == 15 && c != ';' && let[place].indexOf(c) >= 0) continue;
        String text = good.substring(0, place) + c + good.substring(place);
        fault(text, let[place].indexOf(c) >= 0 ? place + 1 : place);
      }
    }
    fault("1:1;2+;3:?-;6:40", 5);
    reads("1:12+;3:?-;6:40+", 3);
    reads("1:12+;3:?-;6:40-", 3);
  }

  /** "RINGS of these HOURS become so": others stay. */
  private static void ringsBecomeSo() {
    SevenRings x = new SevenRings();
    for (int hour = 1; hour <= 6; hour++) {
      x.ring(hour, 0, 30 + hour);
      x.ring(hour, 1, 1);
    }
    due("6", Check.rings(x, "2:0;3:40+;5:?"), 3);
    int[] far = {131, 100, 140, 134, 99, 136};
    int[] tone = {101, 100, 102, 101, 100, 101};
    for (int hour = 1; hour <= 6; hour++) {
      due("6 HOW FAR " + hour, x.ring(hour, 0, 0), far[hour - 1]);
      due("6 TONE " + hour, x.ring(hour, 1, 0), tone[hour - 1]);
    }
    // RINGS beyond H are told like others.
    x = new SevenRings();
    x.set(2, 1);
    due("6", Check.rings(x, "6:4-"), 1);
    due("6", x.ring(6, 0, -1), 104);
  }

  /** A FAULT in the last CLAUSE leaves the RINGS of the first ones as they were. */
  private static void allOrNothing() {
    fault("1:1;2:2;3:3;4:4;5:5;6:41", 22);
    fault("1:1;2:2;3:3;4:4;5:5;6:6+x", 24);
    fault("1:1;2:2;3:3;4:4;5:5;6", 21);
    fault("1:1-;2:?;2:2", 9);
    // What a TEXT with a FAULT said is not remembered by the next one.
    SevenRings x = new SevenRings();
    due("6", Check.rings(x, "1:1;2:2;x"), -28);
    due("6", Check.rings(x, "3:3"), 1);
    due("6", x.count(0), 1);
    due("6", x.ring(3, 0, 0), 103);
  }

  /** Promise 5: 60 bytes, and what they say. */
  private static void sixtyBytes() {
    fault(" ".repeat(60), 60);
    fault("1:5;" + " ".repeat(56), 60);
    reads(" ".repeat(57) + "6:4", 1);
    fault(" ".repeat(59) + "1", 60);
    fault(" ".repeat(59) + "x", 59);
    SevenRings x = new SevenRings();
    Check.write(x, " ".repeat(57) + "1:4");
    due("5 full", x.type('0', 1), FULL);
    due("5 what was refused did not come", x.rings(), 1);
    due("5", x.ring(1, 0, 0), 104);
    for (int i = 1; i <= 60; i++) due("5 one by one", x.type(' ', 1), i);
    due("5 full", x.type(' ', 1), FULL);
    due("11 sixty", x.sea(0, 0), -80);
    due("5 empty", x.type(' ', 1), 1);
  }

  /** All TEXTS of up to five signs of these twelve, against the Oracle. */
  private static void allShortTexts() {
    String signs = "01467:;?+- x";
    SevenRings x = new SevenRings();
    Oracle o = new Oracle();
    int calls = 0;
    for (int n = 1; n <= 5; n++) {
      int all = 1;
      for (int i = 0; i < n; i++) all *= signs.length();
      for (int number = 0; number < all; number++) {
        long w = 0;
        for (int i = 0, left = number; i < n; i++, left /= signs.length()) w = w << 8 | signs.charAt(left % signs.length());
        if (calls > 500) {
          x = new SevenRings();
          o = new Oracle();
          calls = 0;
        }
        due("5", x.type(w, n), o.type(w, n));
        due("6 of " + Long.toHexString(w), x.rings(), o.rings());
        calls += 2;
      }
    }
  }

  private static void seaFault(String text, int place) {
    SevenRings x = new SevenRings();
    for (int column = 0; column < 10; column++) x.cell(1, 20 + column, 0, column % 8);
    due("11 '" + text + "'", Check.sea(x, 1, 2, text), -20 - place);
    due("11 the tape is empty", x.type(' ', 1), 1);
    for (int column = 0; column < 10; column++) due("11 CURRENTS stay", x.cell(1, 20 + column, 0, 8), column % 8);
  }

  /** "10 digits 0 .. 8", each at each place; how many CELLS have a CURRENT. */
  private static void seaDigits() {
    for (int place = 0; place < 10; place++) {
      for (char c = 33; c <= 126; c++) {
        StringBuilder text = new StringBuilder("8888888888");
        text.setCharAt(place, c);
        if (c < '0' || c > '8') {
          if (c == '9' || c % 7 == 0 || c == '/' || c == ':') seaFault(text.toString(), place);
          continue;
        }
        SevenRings x = new SevenRings();
        due("11 '" + text + "'", Check.sea(x, 0, 5, text.toString()), c == '8' ? 0 : 1);
        for (int column = 0; column < 10; column++) due("11 CURRENT", x.cell(0, 50 + column, 0, 8), column == place ? c - '0' : 8);
      }
    }
    SevenRings x = new SevenRings();
    due("11 all", Check.sea(x, 0, 0, "0000000000"), 10);
    due("11 none", Check.sea(x, 0, 0, "8888888888"), 0);
  }

  private static void seaLengths() {
    for (int n = 0; n < 10; n++) seaFault("0123456788".substring(0, n), n);
    seaFault("01234567880", 10);
    seaFault("0123456788888888888888888888888888888888888888888888888888", 10);
    seaFault("0123456788x", 10);
    seaFault("0123456788:", 10);
    seaFault("1:5", 1);
    seaFault("-123456788", 0);
  }

  private static void seaBlanks() {
    SevenRings x = new SevenRings();
    due("11 blanks", Check.sea(x, 0, 0, " 0 1 2 3 4 5 6 7 8 8 "), 8);
    due("11 blanks", Check.sea(x, 0, 0, "     01234     56788      "), 8);
    due("11 sixty", Check.sea(x, 0, 0, " ".repeat(50) + "0123456788"), 8);
    due("11 sixty", Check.sea(x, 0, 0, "0123456788" + " ".repeat(50)), 8);
    seaFault("          ", 10);
    seaFault("012345678 ", 10);
    seaFault("0123456788 8", 11);
    seaFault("012345678  9", 11);
    seaFault("  9", 2);
    seaFault(" ".repeat(60), 60);
  }

  /** "CURRENTS of a ROW in a SEASON": of no other. */
  private static void seaRows() {
    for (int season = 0; season < 2; season++) {
      for (int row = 0; row < 10; row++) {
        SevenRings x = new SevenRings();
        due("11", Check.sea(x, season, row, "0123456701"), 10);
        for (int cell = 0; cell < 100; cell++) {
          due("11 CURRENT of " + cell, x.cell(season, cell, 0, 8), cell / 10 == row ? cell % 10 % 8 : 8);
          due("11 the other SEASON", x.cell(1 - season, cell, 0, 8), 8);
          due("11 WARMTH stays", x.cell(season, cell, 1, 0), 0);
        }
      }
    }
  }

  /** THE TAPE is one for both: what RINGS emptied a SEA can't read, and the other way. */
  private static void tapeIsOne() {
    SevenRings x = new SevenRings();
    due("11", Check.sea(x, 0, 0, "0123456788"), 8);
    due("6 empty", x.rings(), -20);
    due("6", Check.rings(x, "1:5"), 1);
    due("11 empty", x.sea(0, 0), -20);
    Check.write(x, "01234567");
    due("11 BAD", x.sea(0, -1), SevenRings.BAD);
    due("11 BAD", x.sea(-1, 0), SevenRings.BAD);
    due("5 the tape stays", x.type(Check.word("88"), 2), 10);
    due("11 and is read then", x.sea(1, 9), 8);
    Check.write(x, "01234567");
    due("6 no RINGS", x.rings(), -20);
    due("11 empty", x.sea(0, 0), -20);
    due("11 the SEA stays", x.cell(0, 0, 0, 8), 0);
  }
}
