/** Promises 40 to 45: trays, lists, images, counts. */
public final class TraysTest {
  private static final String TWO_WAYS = "society;person 7 7 7 mark 2;person 7 7 7 mark 3;person 0 0 0 mark 1;person 0 0 0 mark 0;fits : cross = 0;likes : 9 - (whom - mark) * (whom - mark);";

  public static void main(String[] args) {
    numbers();
    writing();
    lists();
    images();
    counts();
    Check.end();
  }

  private static void numbers() {
    RingSign x = new RingSign();
    Check.due("no tray", x.numbers(4, 0, 1), -2);
    Check.due("no tray", x.numbers(-1, 0, 1), -2);
    Check.due("no sort", x.numbers(0, 4, 1), -2);
    Check.due("no sort", x.numbers(0, -1, 1), -2);
    Check.due("sort ahead of n", x.numbers(0, 4, 41), -2);
    Check.due("n", x.numbers(0, 0, -1), -3);
    Check.due("n", x.numbers(0, 0, 41), -3);
    Check.due("still missing", x.write(0, 0, 1), -6);
    for (int tray = 0; tray < 4; tray++) {
      for (int sort = 0; sort < 4; sort++) Check.due("tray", x.numbers(tray, sort, 40), 0);
    }
    Check.due("last place", x.write(3, 39, 5), 5);
    Check.due("n", x.numbers(3, 0, 41), -3);
    Check.due("the tray stays", x.write(3, 38, 300), 300);
    Check.due("none", x.numbers(3, 0, 0), 0);
    Check.due("no place", x.write(3, 0, 1), -7);
  }

  private static void writing() {
    RingSign x = new RingSign();
    Check.due("no tray", x.write(4, 0, 1), -2);
    Check.due("no tray", x.write(-1, 0, 1), -2);
    Check.due("missing", x.write(1, 0, 1), -6);
    x.numbers(1, 0, 3);
    Check.due("no place", x.write(1, 3, 1), -7);
    Check.due("no place", x.write(1, -1, 1), -7);
    Check.due("no place", x.write(1, Integer.MIN_VALUE, 1), -7);
    long v = 0x123456789abcdef0L;
    long[] cut = {(byte) 0xf0, (short) 0xdef0, 0x9abcdef0, v};
    long[] high = {127, 32767, 2147483647L, Long.MAX_VALUE};
    for (int sort = 0; sort < 4; sort++) {
      x.numbers(2, sort, 1);
      Check.due("cut to " + sort, x.write(2, 0, v), cut[sort]);
      Check.due("-1 in " + sort, x.write(2, 0, -1), -1);
      Check.due("highest of " + sort, x.write(2, 0, high[sort]), high[sort]);
      Check.due("one above of " + sort, x.write(2, 0, high[sort] + 1), -high[sort] - 1);
    }
    // 256 + 1 is 1 in 8 bits: a deed that can be, and a blot.
    RingSign y = Check.of("society;person 0 0 0;person 0 0 0;");
    Check.tray(y, 0, 0, 257);
    Check.due("as it is there", y.judge(0, 1), 0);
    Check.tray(y, 0, 1, 257);
    Check.due("a stroke of 5, who isn't there", y.judge(0, 1), 1);
    Check.tray(y, 0, 1, 1, 1);
    y.numbers(0, 1, 2);
    Check.due("all 0 anew: 0 with 0", y.judge(0, 1), 1);
  }

  private static void lists() {
    RingSign x = Check.of(TWO_WAYS);
    Check.due("no tray", x.lists(4, 0), -2);
    Check.due("missing", x.lists(0, 0), -6);
    Check.due("missing ahead of k", x.lists(0, -1), -6);
    Check.tray(x, 0, 0, 9, 9, 9, 9, 9);
    Check.due("k", x.lists(0, -1), -3);
    Check.due("not so many", x.lists(0, 2), -5);
    Check.due("four", x.lists(0, 0), 4);
    // As deeds 2, 3, 0, 1 and 9: 0 and 2 get engaged, and then 0 likes 2 better than 3.
    Check.due("place of the deed 3", x.judge(0, 0), 1);
    Check.due("why", x.judge(0, 1), 4);
    Check.due("0 and 2", x.judge(0, 2), 5);
    x.numbers(0, 0, 4);
    Check.due("four", x.lists(0, 1), 4);
    Check.due("it holds by the mark as it is", x.marks(0, 0) >> 2 & 1, 1);
    x.engage(0, 3);
    x.engage(1, 2);
    Check.due("that is the pairing as it is", x.holds(), 1);
    Check.tray(x, 1, 2, 7, 7);
    Check.due("as far as it has places", x.lists(1, 1), 2);
    Check.tray(x, 1, 2);
    Check.due("no places", x.lists(1, 0), 0);
    RingSign y = Check.of("society;person 0 0 0;person 0 0 0;person 0 0 0;");
    Check.tray(y, 0, 0, 5, 5, 5);
    Check.due("three", y.lists(0, 0), 3);
    Check.due("1, 0, NONE", y.marks(0, 2), 1023);
    Check.tray(y, 0, 3, 5, 5, 5);
    Check.due("three of 64 bits", y.lists(0, 0), 3);
    Check.due("1, 0, NONE", y.marks(0, 2), 1023);
    RingSign none = new RingSign();
    none.numbers(0, 0, 3);
    Check.due("nobody", none.lists(0, 0), 0);
    Check.due("not so many", none.lists(0, 1), -5);
  }

  private static void images() {
    RingSign x = Check.of("society;person 7 0 0 mark 1 shy 2 odds 3;person 0 0 7;engaged 0 1;likes : 5 + whom;fits : cross < 3;");
    Check.due("no image", x.image(2), -2);
    Check.due("no image", x.image(-1), -2);
    Check.due("no image", x.restore(2), -2);
    Check.due("none was made", x.restore(0), -5);
    x.stroke(0, 4);
    Check.due("made", x.image(0), 0);
    Check.due("the other one was not", x.restore(1), -5);
    Check.due("it can still be undone", x.count(5), 1);
    String before = Check.all(x);
    x.part(0);
    x.mark(1, 4);
    Check.feed(x, "society;person 0 0 0;");
    Check.tell(x, "likes;");
    Check.tell(x, "society;person 0 0 0;person 7 7 7;person 7 7 7;fits : cross < 1;");
    x.engage(0, 1);
    x.image(1);
    x.feed(0, 0, 0, 0, 0);
    Check.tray(x, 0, 0, 1, 2, 3);
    Check.due("restored", x.restore(0), 0);
    Check.due("nothing can be undone", x.count(5), 0);
    Check.due("undo", x.undo(1), -3);
    Check.due("the tape stays", x.count(6), 20);
    x.society(20);
    Check.due("the text on it has a fault", x.fault(0), 1);
    Check.due("lines", x.count(7), 6);
    Check.that("all as it was but for undoing and the fault", strip(before).equals(strip(Check.all(x))));
    Check.due("trays stay", x.write(0, 2, 7), 7);
    Check.due("restored", x.restore(1), 0);
    Check.due("three people", x.count(0), 3);
    Check.due("0 and 1", x.count(1), 3);
    Check.due("the law", x.crosses(1, 2), 1);
    Check.due("the law", x.fits(6), 0);
    x.stroke(0, 0);
    x.restore(1);
    Check.due("an image stays as it was made", x.person(0, 0), 0);
    x.restore(0);
    Check.due("and so does the other one", x.person(0, 0), 23);
    x.image(1);
    x.restore(1);
    Check.due("made anew", x.count(0), 2);
    RingSign none = new RingSign();
    Check.due("of no people", none.image(1), 0);
    Check.tell(none, "society;person 0 0 0;");
    Check.due("of no people", none.restore(1), 0);
    Check.due("no people", none.count(0), 0);
    Check.due("no lines", none.count(7), 0);
  }

  /** Without what can be undone, the tape and the fault. */
  private static String strip(String all) {
    return all.replaceFirst("^(\\S+ \\S+ \\S+ \\S+ \\S+) \\S+ \\S+ (\\S+) \\S+ \\S+\\|", "$1 $2|");
  }

  private static void counts() {
    RingSign x = Check.of("society;person 7 0 0 odds 4;person 0 0 7;person 1 1 1 odds 0;person 0 0 0;engaged 0 2;");
    Check.due("people", x.count(0), 4);
    Check.due("who is with somebody", x.count(1), 5);
    Check.due("twos", x.count(2), 1);
    Check.due("cells", x.count(3), 9);
    Check.due("odds", x.count(4), 6);
    Check.due("undone", x.count(5), 0);
    Check.due("tape", x.count(6), 0);
    Check.due("lines", x.count(7), 6);
    Check.due("others", x.count(8), -1);
    Check.due("others", x.count(-1), -1);
    x.feed(0, 0, 0, 0, 0);
    x.engage(1, 3);
    x.stroke(3, 3);
    Check.due("who is with somebody", x.count(1), 15);
    Check.due("twos", x.count(2), 2);
    Check.due("cells", x.count(3), 10);
    Check.due("undone", x.count(5), 2);
    Check.due("tape", x.count(6), 20);
  }
}
