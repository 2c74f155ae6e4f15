/** What every test of the project uses: it tells a text, and counts the answers that are not due. */
final class Check {
  private static int wrong = 0;
  private static int right = 0;
  /** The sentence of the document that is tested just now. */
  static String about = "";

  private Check() { }

  static void due(String call, long got, long want) {
    if (got == want) {
      right++;
    } else {
      wrong++;
      if (wrong <= 200) System.out.println((about.isEmpty() ? "" : "\"" + about + "\": ") + call + " answered " + got + ", due is " + want);
    }
  }

  /** How many answers were looked at so far. */
  static int told() { return right + wrong; }

  static void that(String what, boolean holds) {
    due(what, holds ? 1 : 0, 1);
  }

  /** Feeds a text, the last twenty bytes filled up with blanks, and answers what the tape has then. */
  static int feed(RingSign x, String text) {
    int taped = x.count(6);
    for (int at = 0; at < text.length(); at += 20) {
      int[] five = new int[5];
      for (int i = 0; i < 20; i++) {
        int c = at + i < text.length() ? text.charAt(at + i) & 255 : 32;
        five[i / 4] = five[i / 4] << 8 | c;
      }
      taped = x.feed(five[0], five[1], five[2], five[3], five[4]);
    }
    return taped;
  }

  /** What society() answers to a text. */
  static int tell(RingSign x, String text) {
    feed(x, text);
    return x.society(text.length());
  }

  /** A text with a fault, told to a new object; the fault's place stands behind a ^. */
  static void fault(int kind, String marked) {
    int place = marked.indexOf('^');
    String text = marked.substring(0, place) + marked.substring(place + 1);
    RingSign x = new RingSign();
    String name = marked.replace('\n', '/');
    due(name, tell(x, text), -30 - kind);
    due("fault(0) of " + name, x.fault(0), kind);
    due("fault(1) of " + name, x.fault(1), place);
    due("no people of " + name, x.count(0), 0);
  }

  /** A new object with this society. */
  static RingSign of(String text) {
    RingSign x = new RingSign();
    int lines = tell(x, text);
    that("a society that was told: " + text, lines > 0);
    return x;
  }

  /** A line that tells one with a sign, its cell 0 the lowest bit; flags begin with a blank. */
  static String person(int sign, String flags) {
    StringBuilder b = new StringBuilder("person");
    for (int row = 0; row < 3; row++) {
      int bits = sign >> 3 * row & 7;
      b.append(' ').append((bits & 1) * 4 + (bits >> 1 & 1) * 2 + (bits >> 2));
    }
    return b.append(flags).append(';').toString();
  }

  static void tray(RingSign x, int tray, int sort, long... numbers) {
    due("numbers", x.numbers(tray, sort, numbers.length), 0);
    for (int i = 0; i < numbers.length; i++) x.write(tray, i, numbers[i]);
  }

  /** All that can be asked of an object, so that two can be held against each other. */
  static String all(RingSign x) {
    StringBuilder b = new StringBuilder();
    for (int what = 0; what <= 7; what++) b.append(x.count(what)).append(' ');
    b.append(x.fault(0)).append(' ').append(x.fault(1)).append('|');
    int people = x.count(0);
    for (int p = 0; p < people; p++) {
      for (int what = 0; what <= 6; what++) b.append(x.person(p, what)).append(' ');
      for (int q = 0; q < people; q++) b.append(x.likes(p, q)).append(' ').append(x.crosses(p, q)).append(' ');
      b.append(x.chance(p, 0)).append('/').append(x.chance(p, 1)).append('|');
    }
    int[] more = {x.holds(), x.breaks(), x.breaking(), x.pairings(), x.sure(), x.most(), x.triangle(), x.largest(), x.misfits()};
    for (int answer : more) b.append(answer).append(' ');
    return b.toString();
  }

  static void end() {
    System.out.println(wrong == 0 ? right + " answers, all as due" : wrong + " answers are not as due");
    if (wrong != 0 || right == 0) System.exit(1);
  }
}
