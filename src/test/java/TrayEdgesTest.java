/** The edges of each call, sentence by sentence: promises 38 to 45, the constant, and how long an object is used. */
public final class TrayEdgesTest {
  private static final String BARE = "person 0 0 0;";
  private static final String FULL = "person 7 7 7;";
  private static final String BY_MARK = "likes:9-(whom-mark)*(whom-mark);";
  private static final String TWO_WAYS = "person 7 7 7 mark 2;person 7 7 7 mark 3;person 0 0 0 mark 1;person 0 0 0 mark 0;fits:cross=0;" + BY_MARK;
  private static final String NO_WAY = "person 0 0 0 mark 1;person 0 0 0 mark 2;person 0 0 0 mark 0;" + BY_MARK;
  private static final int[] NO_TRAYS = {4, 5, -1, -2, Integer.MIN_VALUE, Integer.MAX_VALUE};
  private static final int[] NOT_TWO = {2, 3, 7, 31, 32, 33, -1, -2, Integer.MIN_VALUE, Integer.MIN_VALUE + 1, Integer.MAX_VALUE};

  public static void main(String[] args) {
    Doc.promise(38)
        .says("CHANCE that a PERSON is with somebody (it isn't, if it stays at home), what 0: above, 1: below.", TrayEdgesTest::chance)
        .says("-2.", TrayEdgesTest::noChance).end();
    Doc.promise(39)
        .says("With whom it is likeliest, the first.", TrayEdgesTest::likeliest)
        .says("NONE: with nobody ever; -2.", TrayEdgesTest::noLikeliest).end();
    Doc.promise(40)
        .says("A TRAY has n numbers of a sort, all 0 (in place of another one): 0.", TrayEdgesTest::numbers)
        .says("-2: no such TRAY, sort;", TrayEdgesTest::noSort)
        .says("-3, and the TRAY stays: n is below 0 or above 40.", TrayEdgesTest::trayStays).end();
    Doc.promise(41)
        .says("Number i of a TRAY is v, cut to its sort: as it is there.", TrayEdgesTest::write)
        .says("-2: no such TRAY; -6; -7.", TrayEdgesTest::noWrite).end();
    Doc.promise(42)
        .says("The k-th PAIRING that HOLDS, PERSON by PERSON (NONE: with nobody), comes into a TRAY, as far as it has places: how many.", TrayEdgesTest::lists)
        .says("-2: the TRAY; -6; -3: k is below 0; -5: not so many.", TrayEdgesTest::noLists).end();
    Doc.promise(43).says("An IMAGE is made: 0.", TrayEdgesTest::image).says("-2.", TrayEdgesTest::noImage).end();
    Doc.promise(44)
        .says("All that is in an IMAGE is as it was: 0.", TrayEdgesTest::restore)
        .says("-2; -5: none was made.", TrayEdgesTest::noRestore).end();
    Doc.promise(45)
        .says("0 PEOPLE, 1 who is with somebody, as bits, 2 how many twos are with each other, 3 CELLS with INK of all SIGNS, 4 all odds,"
            + " 5 calls that can be UNDONE, 6 bytes on THE TAPE, 7 LINES.", TrayEdgesTest::count)
        .says("NONE for others.", TrayEdgesTest::otherCounts).end();
    Doc.part("An object is used", "## The public face")
        .says("An object is used for at most 512 calls after it has been made; what later calls answer is free.", TrayEdgesTest::fiveHundredAndTwelve).end();
    Doc.part("The constants:", "Ahead of the calls `feed`")
        .says("The constants: `NONE = -1`: There is none.", () -> Check.due("NONE", RingSign.NONE, -1)).end();
    Check.end();
  }

  private static RingSign of(String lines) { return Check.of("society;" + lines); }

  // ---- chances

  private static void chance(RingSign x, int p, int above, int below) {
    Check.due("chance(" + p + ", 0)", x.chance(p, 0), above);
    Check.due("chance(" + p + ", 1)", x.chance(p, 1), below);
  }

  private static void chance() {
    chance(of(BARE), 0, 0, 1);
    chance(of(BARE + BARE), 1, 1, 1);
    chance(of("person 0 0 0 shy 10;" + BARE), 0, 0, 1);
    chance(of("person 0 0 0 shy 9;person 0 0 0 shy 9;"), 0, 1, 100);
    chance(of("person 0 0 0 shy 1;person 0 0 0 shy 1;"), 0, 81, 100);
    // If one stays at home it isn't with anybody, though the others would like to.
    RingSign x = of("person 0 0 0 shy 7;" + BARE.repeat(6));
    chance(x, 0, 3, 10);
    chance(x, 1, 1, 1);
    // Of seven the last is left over if 0 is there.
    chance(x, 6, 7, 10);
    // Far below in lowest terms: all seven of 1/10 each, and two who match alone.
    RingSign small = of("person 0 0 0 shy 9;".repeat(7) + "likes:(who-4)*(whom-4)*(who-3)*(whom-3)*(who-2)*(whom-2)*(who-1)*(whom-1)*who*whom;");
    chance(small, 6, 1, 100);
    chance(small, 4, 0, 1);
    chance(of("person 0 0 0 shy 1;".repeat(7)), 0, 8999991, 10000000);
    chance(of("person 0 0 0 shy 5;".repeat(7)), 0, 63, 128);
  }

  private static void noChance() {
    RingSign x = of(BARE + BARE);
    for (int p : NOT_TWO) {
      Check.due("chance(" + p + ", 0)", x.chance(p, 0), -2);
      Check.due("what " + p, x.chance(0, p), -2);
      Check.due("both", x.chance(p, p), -2);
    }
    Check.due("no people", new RingSign().chance(0, 0), -2);
    Check.due("7 of seven", of(BARE.repeat(7)).chance(7, 1), -2);
  }

  private static void likeliest() {
    Check.due("two", of(BARE + BARE).likeliest(1), 0);
    // With 1 if it is there, else with 2: 4 to 6, 5 to 5, 6 to 4; of like ones the first.
    int[] due = {2, 1, 1};
    for (int i = 0; i < 3; i++) {
      RingSign x = of(BARE + "person 0 0 0 shy " + (6 - i) + ";" + BARE);
      Check.due("1 is there by " + (4 + i) + "/10", x.likeliest(0), due[i]);
    }
    Check.due("the last two", of(BARE.repeat(7) + "likes:who-4;").likeliest(5), 6);
    Check.due("the last two", of(BARE.repeat(7) + "likes:who-4;").likeliest(6), 5);
    // One in a thousand is enough.
    Check.due("hardly ever", of("person 0 0 0 shy 9;person 0 0 0 shy 9;").likeliest(0), 1);
  }

  private static void noLikeliest() {
    RingSign x = of(BARE + BARE);
    for (int p : NOT_TWO) Check.due("likeliest(" + p + ")", x.likeliest(p), -2);
    Check.due("no people", new RingSign().likeliest(0), -2);
    Check.due("one alone", of(BARE).likeliest(0), -1);
    Check.due("it stays at home", of("person 0 0 0 shy 10;" + BARE).likeliest(0), -1);
    Check.due("the other one does", of("person 0 0 0 shy 10;" + BARE).likeliest(1), -1);
    Check.due("they don't match", of(BARE + BARE + "likes:0;").likeliest(1), -1);
    Check.due("none holds", of(NO_WAY).likeliest(0), -1);
    Check.due("left over", of(BARE.repeat(3)).likeliest(2), -1);
  }

  // ---- trays

  private static void numbers() {
    RingSign x = of(FULL + BARE);
    for (int tray = 0; tray < 4; tray++) {
      for (int sort = 0; sort < 4; sort++) {
        Check.due("numbers(" + tray + ", " + sort + ", 18)", x.numbers(tray, sort, 18), 0);
        Check.due("all 0: no ink in cell 0", x.blot(tray), 2);
        for (int i = 0; i < 18; i++) x.write(tray, i, 1);
        Check.due("all 1", x.blot(tray), 1);
      }
    }
    // In place of another one: nothing of it is left.
    Check.due("fewer", x.numbers(0, 0, 3), 0);
    Check.due("all 0", x.blot(0), 2);
    Check.due("more", x.numbers(0, 0, 18), 0);
    Check.due("all 0", x.blot(0), 2);
    Check.due("the sort is new", x.write(0, 0, 300), 44);
    Check.due("none", x.numbers(0, 3, 0), 0);
    Check.due("no numbers", x.blot(0), -4);
    Check.due("no places", x.write(0, 0, 1), -7);
    Check.due("forty", x.numbers(0, 3, 40), 0);
    Check.due("the fortieth", x.write(0, 39, Long.MIN_VALUE), Long.MIN_VALUE);
    Check.due("the other trays stay", x.blot(3), 1);
  }

  private static void noSort() {
    RingSign x = of(BARE);
    for (int tray : NO_TRAYS) {
      Check.due("tray " + tray, x.numbers(tray, 0, 1), -2);
      Check.due("ahead of n: tray " + tray, x.numbers(tray, 0, 41), -2);
      Check.due("sort " + tray, x.numbers(0, tray, 1), -2);
      Check.due("ahead of n: sort " + tray, x.numbers(0, tray, -1), -2);
    }
    Check.due("missing still", x.write(0, 0, 1), -6);
    x.numbers(0, 1, 1);
    x.write(0, 0, 300);
    for (int sort : NO_TRAYS) x.numbers(0, sort, 1);
    Check.due("the tray stays", x.judge(0, 0), -1);
  }

  private static void trayStays() {
    RingSign x = of(BARE);
    for (int n : new int[] {-1, 41, 42, Integer.MIN_VALUE, Integer.MAX_VALUE}) Check.due("n " + n, x.numbers(1, 1, n), -3);
    Check.due("missing still", x.write(1, 0, 1), -6);
    x.numbers(1, 1, 2);
    x.write(1, 0, 305);
    x.write(1, 1, 200);
    for (int n : new int[] {-1, 41, 42, Integer.MIN_VALUE, Integer.MAX_VALUE}) Check.due("n " + n, x.numbers(1, 0, n), -3);
    Check.due("both deeds are there", x.perform(1), 2);
    Check.due("the first", x.person(0, 2), 5);
    Check.due("its sort", x.write(1, 0, 300), 300);
    Check.due("its places", x.write(1, 2, 300), -7);
  }

  private static void write() {
    RingSign x = of(BARE);
    long[] values = {0, 1, -1, 127, 128, 255, 256, -128, -129, 32767, 32768, 65535, 65536, 2147483647L, 2147483648L, 4294967295L, 4294967296L,
        Long.MAX_VALUE, Long.MIN_VALUE, 0x0123456789abcdefL, 0xfedcba9876543210L};
    for (int sort = 0; sort < 4; sort++) {
      x.numbers(0, sort, 40);
      for (long v : values) {
        long cut = sort == 0 ? (byte) v : sort == 1 ? (short) v : sort == 2 ? (int) v : v;
        Check.due("write " + v + " as " + sort, x.write(0, 39, v), cut);
      }
    }
    // It is there as it was cut: 256 + 1 is 1 in 8 bits, and a place written twice has the later one.
    x.numbers(1, 0, 2);
    x.write(1, 0, 256 + 1);
    x.write(1, 1, 17);
    Check.due("no ink, though seen", x.blot(1), 0);
    x.write(1, 0, 256);
    x.write(1, 1, 16);
    Check.due("as it is there", x.blot(1), 1);
    Check.due("the other tray stays", x.numbers(2, 0, 1) + x.blot(1), 1);
  }

  private static void noWrite() {
    RingSign x = of(BARE);
    for (int tray : NO_TRAYS) {
      Check.due("tray " + tray, x.write(tray, 0, 5), -2);
      Check.due("ahead of the place: tray " + tray, x.write(tray, -1, 5), -2);
    }
    for (int tray = 0; tray < 4; tray++) {
      Check.due("missing", x.write(tray, 0, 5), -6);
      Check.due("missing, ahead of the place", x.write(tray, 40, 5), -6);
    }
    x.numbers(0, 0, 3);
    for (int i : new int[] {3, 4, 39, 40, -1, Integer.MIN_VALUE, Integer.MAX_VALUE}) Check.due("place " + i, x.write(0, i, 1), -7);
    Check.due("nothing was written", x.blot(0), 1);
    x.numbers(0, 0, 0);
    Check.due("no places", x.write(0, 0, 1), -7);
  }

  private static void lists() {
    RingSign x = of(TWO_WAYS);
    // 2, 3, 0, 1 and 3, 2, 1, 0; as deeds 0 wouldn't leave 2 for 3, but 3 for 2.
    int[] place = {1, 2};
    for (int k = 0; k < 2; k++) {
      for (int sort = 0; sort < 4; sort++) {
        x.numbers(0, sort, 4);
        Check.due("lists(0, " + k + ")", x.lists(0, k), 4);
        for (int p = 0; p < 4; p++) Check.due("the pairing holds", x.marks(0, p) >> x.person(p, 2) & 1, 1);
        Check.due("it is that one", x.judge(0, 0), place[k]);
      }
    }
    RingSign y = of(BARE.repeat(3));
    Check.tray(y, 0, 0, 7, 7, 7, 7, 7);
    Check.due("more places than people", y.lists(0, 0), 3);
    Check.due("the rest stays: 1, 0, -1, 7, 7", y.judge(0, 0), 1);
    RingSign two = of(BARE + BARE);
    Check.tray(two, 0, 0, 17, 17, 17, 17);
    Check.due("two of four places", two.lists(0, 0), 2);
    Check.due("1, 0, 17, 17: all of these tell a cell", two.blot(0), 0);
    Check.tray(y, 1, 0, 17, 17);
    Check.due("fewer places", y.lists(1, 0), 2);
    Check.due("as a blot: no ink in cell 0, and ink", y.blot(1), 0);
    Check.tray(y, 1, 0, 17);
    Check.due("one place", y.lists(1, 0), 1);
    Check.due("as a blot: 1", y.blot(1), 0);
    Check.tray(y, 1, 0);
    Check.due("no places", y.lists(1, 0), 0);
    // NONE is -1 in each sort.
    for (int sort = 0; sort < 4; sort++) {
      y.numbers(2, sort, 3);
      Check.due("three", y.lists(2, 0), 3);
      Check.due("1, 0, NONE", y.marks(2, 2), 1023);
    }
    RingSign none = new RingSign();
    none.numbers(0, 0, 2);
    Check.due("no people", none.lists(0, 0), 0);
  }

  private static void noLists() {
    RingSign x = of(TWO_WAYS);
    for (int tray : NO_TRAYS) {
      Check.due("tray " + tray, x.lists(tray, 0), -2);
      Check.due("ahead of k: tray " + tray, x.lists(tray, -1), -2);
    }
    for (int tray = 0; tray < 4; tray++) {
      Check.due("missing", x.lists(tray, 0), -6);
      Check.due("missing, ahead of k", x.lists(tray, -1), -6);
      Check.due("missing, ahead of not so many", x.lists(tray, 9), -6);
    }
    Check.tray(x, 0, 0, 17, 17, 17, 17);
    for (int k : new int[] {-1, -2, Integer.MIN_VALUE}) Check.due("k " + k, x.lists(0, k), -3);
    for (int k : new int[] {2, 3, 231, 232, 233, Integer.MAX_VALUE}) Check.due("not so many: " + k, x.lists(0, k), -5);
    Check.due("the tray stays", x.blot(0), 3);
    Check.tray(x, 1, 0);
    Check.due("not so many, though no places", x.lists(1, 2), -5);
    RingSign none = of(NO_WAY);
    Check.tray(none, 0, 0, 17);
    Check.due("none holds", none.lists(0, 0), -5);
    Check.due("k ahead of it", none.lists(0, -1), -3);
    RingSign empty = new RingSign();
    empty.numbers(0, 0, 1);
    Check.due("no people, one pairing", empty.lists(0, 1), -5);
  }

  // ---- images

  private static void image() {
    RingSign x = of(BARE);
    Check.due("image(0)", x.image(0), 0);
    x.stroke(0, 0);
    Check.due("image(1)", x.image(1), 0);
    Check.due("nothing is changed", x.person(0, 0), 1);
    Check.due("it can be undone still", x.undo(1), 0);
    x.stroke(0, 1);
    Check.due("made anew", x.image(0), 0);
    x.restore(1);
    Check.due("1", x.person(0, 0), 1);
    x.restore(0);
    Check.due("0, as made anew", x.person(0, 0), 2);
    Check.due("of no people", new RingSign().image(0), 0);
  }

  private static void noImage() {
    RingSign x = of(BARE);
    for (int i : NOT_TWO) Check.due("image(" + i + ")", x.image(i), -2);
    Check.due("none was made", x.restore(0), -5);
    Check.due("none was made", x.restore(1), -5);
  }

  private static void restore() {
    RingSign x = of("person 7 0 0 mark 1 shy 2 odds 3;" + BARE + "engaged 0 1;likes:5+whom;fits:cross<3;");
    String before = Check.all(x);
    x.image(0);
    for (int i = 0; i < 3; i++) {
      x.part(0);
      x.stroke(0, 4);
      x.mark(1, 9);
      Check.due("restored", x.restore(0), 0);
      Check.that("all as it was", before.equals(Check.all(x)));
    }
    Check.tell(x, "society;" + BARE.repeat(7));
    Check.due("restored", x.restore(0), 0);
    Check.that("all as it was", before.equals(Check.all(x)));
    // What was asked of another society is of no use in this one.
    Check.tell(x, "society;" + BARE + BARE + "fits:1=2;likes:0;");
    Check.due("no one fits", x.fits(1) + x.fits(2) + x.fits(3), 0);
    x.restore(0);
    Check.due("all fit", x.fits(1) + x.fits(2) + x.fits(3), 3);
    Check.due("the law likes", x.likes(0, 1), 6);
    // What is no part of it stays: the tape, trays, the other image.
    x.feed(1, 2, 3, 4, 5);
    Check.tray(x, 0, 0, 1);
    x.image(1);
    x.restore(0);
    Check.due("the tape", x.count(6), 20);
    Check.due("the tray", x.blot(0), 1);
    Check.due("the other image", x.restore(1), 0);
  }

  private static void noRestore() {
    RingSign x = of(BARE);
    for (int i : NOT_TWO) Check.due("restore(" + i + ")", x.restore(i), -2);
    Check.due("none was made", x.restore(0), -5);
    Check.due("none was made", x.restore(1), -5);
    x.stroke(0, 0);
    x.image(0);
    Check.due("0 was made, 1 was not", x.restore(1), -5);
    Check.due("it can be undone still", x.count(5), 1);
    Check.due("0", x.restore(0), 0);
  }

  // ---- counts

  private static void counts(RingSign x, int... due) {
    for (int what = 0; what < 8; what++) Check.due("count(" + what + ")", x.count(what), due[what]);
  }

  private static void count() {
    counts(new RingSign(), 0, 0, 0, 0, 0, 0, 0, 0);
    counts(of(""), 0, 0, 0, 0, 0, 0, 0, 1);
    counts(of(FULL.repeat(7)), 7, 0, 0, 63, 7, 0, 0, 8);
    RingSign x = of("person 7 7 7 odds 9;".repeat(7) + "engaged 0 6;engaged 1 5;engaged 2 4;");
    counts(x, 7, 127 - 8, 3, 63, 63, 0, 0, 11);
    for (int c = 0; c < 9; c++) x.stroke(3, c);
    x.part(0);
    counts(x, 7, 127 - 8 - 65, 2, 54, 63, 10, 0, 11);
    x.mark(3, 3);
    counts(x, 7, 127 - 8 - 65, 2, 54, 63, 10, 0, 11);
    x.undo(10);
    counts(x, 7, 127 - 8, 3, 62, 63, 0, 0, 11);
    for (int i = 0; i < 46; i++) x.feed(0, 0, 0, 0, 0);
    counts(x, 7, 127 - 8, 3, 62, 63, 0, 900, 11);
    counts(of("person 0 0 0 odds 0;"), 1, 0, 0, 0, 0, 0, 0, 2);
  }

  private static void otherCounts() {
    RingSign x = of(FULL);
    for (int what : new int[] {8, 9, 10, -1, -8, 32, Integer.MIN_VALUE, Integer.MAX_VALUE}) Check.due("count(" + what + ")", x.count(what), -1);
  }

  private static void fiveHundredAndTwelve() {
    RingSign x = new RingSign();
    for (int i = 0; i < 3; i++) x.feed(0x736f6369, 0x6574793b, 0x20202020, 0x20202020, 0x20202020);
    Check.due("call 4", x.society(20), 1);
    Check.feed(x, "society;" + BARE);
    Check.due("people", x.society(40), 2);
    // count(), two feeds and society(): eight calls so far.
    int sign = 0;
    for (int call = 9; call <= 511; call++) {
      int c = call * 7 % 9;
      sign ^= 1 << c;
      Check.due("call " + call, x.stroke(0, c), sign >> c & 1);
    }
    Check.due("call 512", x.person(0, 0), sign);
    RingSign full = of(FULL.repeat(7) + "likes:9-whom;");
    int calls = 8;
    for (int set = 1; calls < 511; set = set % 127 + 1, calls += 2) {
      Check.due("fits", full.fits(set), Integer.bitCount(set) <= 2 ? 1 : 0);
      Check.due("stroke", full.stroke(0, 4), calls / 2 % 2 == 0 ? 0 : 1);
    }
    Check.that("no more than 512", calls <= 512);
  }
}
