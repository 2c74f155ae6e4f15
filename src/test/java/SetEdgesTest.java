/** The edges of each call, sentence by sentence: promises 25 to 37. */
public final class SetEdgesTest {
  private static final String BARE = "person 0 0 0;";
  private static final String FULL = "person 7 7 7;";
  /** None of these is a tray, but for 0 to 3 all of them are far from it. */
  private static final int[] NO_TRAYS = {4, 5, -1, -2, Integer.MIN_VALUE, Integer.MAX_VALUE};
  private static final int[] NOT_TWO = {2, 3, 7, 31, 32, 33, -1, -2, Integer.MIN_VALUE, Integer.MIN_VALUE + 1, Integer.MAX_VALUE};
  /** Of three people: others are in these sets. */
  private static final int[] OTHERS = {8, 9, 15, 64, 127, 128, 256, 1 << 30, -1, -8, Integer.MIN_VALUE, Integer.MIN_VALUE + 1, Integer.MAX_VALUE};

  public static void main(String[] args) {
    rings();
    blots();
    marks();
    turns();
    Check.end();
  }

  private static RingSign of(String lines) { return Check.of("society;" + lines); }

  private static void rings() {
    Doc.promise(25)
        .says("The MONOGRAM of a set (1 to 4 PEOPLE), what 0: CROSSINGS, 10 + p: the SHIFT of PERSON p (NONE: it isn't in the set).", SetEdgesTest::monogram)
        .says("-2: what (10 and a PERSON);", SetEdgesTest::monogramWhat)
        .says("-3: the set.", SetEdgesTest::monogramSet).end();
    Doc.promise(26)
        .says("Whether a set FITS (more than 4, too): 1 if so, else 0.", SetEdgesTest::fits)
        .says("-3: others are in the set, nobody is.", SetEdgesTest::noFits).end();
    Doc.promise(27)
        .says("The set of most PEOPLE (1 to 4) that FITS,", SetEdgesTest::largest)
        .says("of like ones the least as bits (0: none).", SetEdgesTest::leastLargest).end();
    Doc.promise(28)
        .says("The smallest set of 3 or 4 that doesn't FIT though each two of it do,", SetEdgesTest::misfits)
        .says("of like ones the least as bits (0: none).", SetEdgesTest::leastMisfits).end();
    Doc.promise(29)
        .says("A CHANGE in the SIGN of the first one, what 0: how many CELLS, 1: the SIGN then, as bits.", SetEdgesTest::change)
        .says("NONE: none does;", SetEdgesTest::changeNone)
        .says("-2: PEOPLE, both one, what.", SetEdgesTest::noChange).end();
  }

  private static void blots() {
    Doc.promise(30)
        .says("A BLOT: PEOPLE, as bits.", SetEdgesTest::blot)
        .says("-2: the TRAY; -6; -4: not 1 to 18 numbers; -3: one is none such.", () -> blotCodes(0)).end();
    Doc.promise(31)
        .says("How likely it was a PERSON's: its odds (0, if it is none of these) to those of all these, in lowest terms, what 0: the number above, 1: below.", SetEdgesTest::likely)
        .says("NONE: odds of all these are 0, there are none;", SetEdgesTest::likelyNone)
        .says("-2: the TRAY, the PERSON, what; -6; -4; -3.", SetEdgesTest::noLikely).end();
    Doc.promise(32)
        .says("The CELL to look at next: the lesser one of the odds of these whose SIGNS have INK there, and of those whose haven't, is greatest, the first.", SetEdgesTest::look)
        .says("NONE: there are none;", SetEdgesTest::lookNone)
        .says("as blot().", () -> blotCodes(1)).end();
  }

  private static void marks() {
    Doc.promise(33)
        .says("ANSWERS: MARKS, as bits.", SetEdgesTest::marksOf)
        .says("-2: the TRAY, the PERSON; -6; -4: not as many numbers as PEOPLE; -3: one is none such, it is with itself, not both are with each other.", () -> answerCodes(false)).end();
    Doc.promise(34)
        .says("The other PERSON of whom it should be asked next whether it WOULD: the lesser number of these MARKS by which it does, or doesn't, is greatest, the first.", SetEdgesTest::ask)
        .says("NONE: there is nobody else, no MARKS;", SetEdgesTest::askNone)
        .says("as marks().", () -> answerCodes(true)).end();
  }

  private static void turns() {
    Doc.promise(35)
        .says("Whether who is to add one to a set in a RING wins THE GAME: 1 if so, else 0.", SetEdgesTest::wins)
        .says("-3: others are in the set.", SetEdgesTest::noTurns).end();
    Doc.promise(36)
        .says("The first PERSON by whom it wins.", SetEdgesTest::best)
        .says("NONE: it loses; -3.", SetEdgesTest::bestNone).end();
    Doc.promise(37)
        .says("How many are added yet, if who wins ends it as soon as can be, who loses as late.", SetEdgesTest::lasts)
        .says("-3.", SetEdgesTest::noTurns).end();
  }

  // ---- rings

  private static void monogram() {
    RingSign x = of(FULL.repeat(7));
    for (int p = 0; p < 7; p++) {
      Check.due("one", x.monogram(1 << p, 0), 0);
      for (int q = 0; q < 7; q++) Check.due("shift of " + q + " where " + p + " is", x.monogram(1 << p, 10 + q), p == q ? 0 : -1);
    }
    // The last four, in the four corners.
    int[] corners = {-1, -1, -1, 0, 2, 6, 8};
    Check.due("four", x.monogram(120, 0), 14);
    for (int p = 0; p < 7; p++) Check.due("shift of " + p, x.monogram(120, 10 + p), corners[p]);
    Check.due("the first and the last", x.monogram(65, 0), 1);
    Check.due("the last lies last", x.monogram(65, 16), 8);
  }

  private static void monogramWhat() {
    RingSign x = of(BARE.repeat(3));
    for (int what : new int[] {1, 2, 9, 13, 14, 16, 17, 42, -1, -10, Integer.MIN_VALUE, Integer.MIN_VALUE + 9, Integer.MAX_VALUE}) {
      Check.due("what " + what, x.monogram(1, what), -2);
      Check.due("ahead of the set: " + what, x.monogram(0, what), -2);
      Check.due("ahead of the set: " + what, x.monogram(-1, what), -2);
    }
    for (int what = 10; what <= 12; what++) Check.due("what " + what, x.monogram(7, what), 0);
    Check.due("no people", new RingSign().monogram(0, 10), -2);
    RingSign seven = of(BARE.repeat(7));
    Check.due("16 of seven", seven.monogram(64, 16), 0);
    Check.due("17 of seven", seven.monogram(64, 17), -2);
  }

  private static void monogramSet() {
    RingSign x = of(BARE.repeat(3));
    for (int set : OTHERS) {
      Check.due("set " + set, x.monogram(set, 0), -3);
      // Ahead of NONE: 1 isn't in some of these sets.
      Check.due("set " + set, x.monogram(set, 11), -3);
    }
    Check.due("nobody", x.monogram(0, 0), -3);
    Check.due("nobody", x.monogram(0, 10), -3);
    RingSign seven = of(BARE.repeat(7));
    for (int set : new int[] {31, 47, 79, 124, 126, 127}) {
      Check.due("five and more: " + set, seven.monogram(set, 0), -3);
      Check.due("five and more: " + set, seven.monogram(set, 10), -3);
    }
    Check.due("four", seven.monogram(15, 0), 0);
    Check.due("no people", new RingSign().monogram(0, 0), -3);
    Check.due("no people", new RingSign().monogram(1, 0), -3);
  }

  private static void fits() {
    RingSign x = of(BARE.repeat(7));
    for (int set = 1; set < 128; set++) Check.due("set " + set, x.fits(set), Integer.bitCount(set) <= 4 ? 1 : 0);
    RingSign y = of(FULL.repeat(7));
    for (int set = 1; set < 128; set++) Check.due("set " + set, y.fits(set), Integer.bitCount(set) <= 2 ? 1 : 0);
    RingSign after = of(FULL.repeat(3) + "fits:ink=18;");
    Check.due("as told", after.fits(3), 1);
    after.stroke(0, 0);
    Check.due("after a stroke", after.fits(3), 0);
    Check.due("the others", after.fits(6), 1);
    after.undo(1);
    Check.due("after undoing", after.fits(3), 1);
    RingSign z = of(BARE.repeat(7) + "fits:many>4;");
    Check.due("five never do", z.fits(31), 0);
  }

  private static void noFits() {
    RingSign x = of(BARE.repeat(3));
    for (int set : OTHERS) Check.due("set " + set, x.fits(set), -3);
    Check.due("nobody", x.fits(0), -3);
    Check.due("all of them", x.fits(7), 1);
    RingSign seven = of(BARE.repeat(7));
    Check.due("all of seven", seven.fits(127), 0);
    Check.due("an eighth", seven.fits(128), -3);
    Check.due("an eighth, too", seven.fits(129), -3);
    Check.due("no people", new RingSign().fits(0), -3);
    Check.due("no people", new RingSign().fits(1), -3);
  }

  private static void largest() {
    Check.due("one of one", of(BARE).largest(), 1);
    Check.due("two of two", of(BARE + BARE).largest(), 3);
    Check.due("three of three", of(BARE.repeat(3)).largest(), 7);
    Check.due("four of four", of(BARE.repeat(4)).largest(), 15);
    Check.due("four of seven", of(BARE.repeat(7)).largest(), 15);
    Check.due("three, though four and two don't", of(BARE.repeat(7) + "fits:many=3;").largest(), 7);
    Check.due("one alone", of(BARE.repeat(7) + "fits:many=1;").largest(), 1);
    Check.due("five are none", of(BARE.repeat(7) + "fits:many=5;").largest(), 0);
    Check.due("more people go ahead of lesser bits", of("person 7 0 0;" + BARE + BARE + "fits:ink=0 or many=1;").largest(), 6);
  }

  private static void leastLargest() {
    Check.due("0 and 1 of seven", of(FULL.repeat(7)).largest(), 3);
    Check.due("2 and 3", of("person 6 0 0;person 6 0 0;person 4 0 0;person 4 0 0;person 4 0 0;fits:ink<3;").largest(), 12);
    // 0 with 2 is 5, 1 with 2 is 6, 0 with 1 is 3 and doesn't.
    Check.due("0 and 2", of("person 6 0 0;person 6 0 0;person 4 0 0;fits:ink<4;").largest(), 5);
    Check.due("the last four", of("person 4 0 0;".repeat(3) + BARE.repeat(4) + "fits:ink=0;").largest(), 120);
    Check.due("the last one", of("person 4 0 0;".repeat(6) + BARE + "fits:ink=0;").largest(), 64);
    Check.due("none", of(BARE.repeat(7) + "fits:1=2;").largest(), 0);
    Check.due("no people", new RingSign().largest(), 0);
  }

  private static void misfits() {
    Check.due("three", of(FULL.repeat(3)).misfits(), 7);
    Check.due("three ahead of four", of(BARE.repeat(4) + "person 6 0 0;".repeat(3) + "fits:many<4 and ink<5;").misfits(), 112);
    Check.due("four", of(BARE.repeat(4) + "fits:many<4;").misfits(), 15);
    Check.due("four, though threes of it don't do either", of(BARE.repeat(4) + "fits:many<3;").misfits(), 7);
    Check.due("twos that don't", of(BARE.repeat(4) + "fits:many=1;").misfits(), 0);
    Check.due("one two that doesn't", of("person 6 0 0;person 6 0 0;person 4 0 0;fits:ink<4;").misfits(), 0);
    Check.due("each one doesn't, each two do", of(BARE.repeat(3) + "fits:many=2;").misfits(), 7);
    Check.due("five are none", of(BARE.repeat(5)).misfits(), 0);
    // 0 and 1 don't fit: so it is 0, 2 and 3.
    Check.due("of four one two doesn't", of("person 6 0 0;person 6 0 0;person 4 0 0;person 4 0 0;fits:ink<4 and many<3;").misfits(), 13);
    Check.due("of four one two doesn't, threes do", of("person 6 0 0;person 6 0 0;person 4 0 0;person 4 0 0;fits:ink<4 or many=3;").misfits(), 0);
    Check.due("two are none", of(BARE + BARE + "fits:1=2;").misfits(), 0);
  }

  private static void leastMisfits() {
    Check.due("the first three of seven", of(FULL.repeat(7)).misfits(), 7);
    Check.due("the last three of seven", of(BARE.repeat(4) + FULL.repeat(3)).misfits(), 112);
    Check.due("of two threes the least", of(BARE + FULL + BARE + FULL.repeat(3)).misfits(), 2 + 8 + 16);
    Check.due("the first four of seven", of(BARE.repeat(7) + "fits:many<4;").misfits(), 15);
    // Nobody's two with 0 fits, so the four are 1 to 4.
    Check.due("four without 0", of(FULL + BARE.repeat(6) + "fits:many<4 and ink=0;").misfits(), 30);
    Check.due("none", of(BARE.repeat(7)).misfits(), 0);
    Check.due("no people", new RingSign().misfits(), 0);
  }

  private static void change() {
    RingSign x = of("person 7 0 0;person 0 0 7;fits:ink=5;");
    Check.due("of the first", x.change(0, 1, 0), 1);
    Check.due("its sign then", x.change(0, 1, 1), 3);
    Check.due("of the second", x.change(1, 0, 0), 1);
    Check.due("its sign then", x.change(1, 0, 1), 64 + 128);
    Check.due("none is done", x.count(3), 6);
    Check.due("nothing to undo", x.count(5), 0);
    RingSign y = of(FULL.repeat(7) + "fits:cross=0;");
    Check.due("the last two", y.change(6, 5, 1), 255);
    Check.due("they fit already", of(BARE + BARE).change(1, 0, 0), 0);
    Check.due("all nine", of(BARE + BARE + "fits:ink=9;").change(0, 1, 0), 9);
    Check.due("all nine", of(FULL + BARE + "fits:ink=0;").change(0, 1, 1), 0);
  }

  private static void changeNone() {
    RingSign x = of(BARE + BARE + "fits:1=2;");
    Check.due("cells", x.change(0, 1, 0), -1);
    Check.due("sign", x.change(0, 1, 1), -1);
    Check.due("many is two", of(BARE + BARE + "fits:many=1;").change(0, 1, 0), -1);
    Check.due("many is two", of(BARE + BARE + "fits:not many=2;").change(0, 1, 0), -1);
    Check.due("many is two", of(BARE + BARE + "fits:many=2;").change(0, 1, 0), 0);
    Check.due("the other one's ink is too much", of(BARE + FULL + "fits:ink<9;").change(0, 1, 0), -1);
    Check.due("not the other way round", of(BARE + FULL + "fits:ink<9;").change(1, 0, 0), 1);
  }

  private static void noChange() {
    RingSign x = of(BARE + BARE);
    RingSign none = of(BARE + BARE + "fits:1=2;");
    for (int p : NOT_TWO) {
      Check.due("change(" + p + ", 0, 0)", x.change(p, 0, 0), -2);
      Check.due("change(0, " + p + ", 0)", x.change(0, p, 1), -2);
      Check.due("what " + p, x.change(0, 1, p), -2);
      Check.due("ahead of NONE: what " + p, none.change(0, 1, p), -2);
      Check.due("ahead of NONE: " + p, none.change(p, 1, 0), -2);
    }
    Check.due("both one", x.change(0, 0, 0), -2);
    Check.due("both one, ahead of NONE", none.change(1, 1, 1), -2);
  }

  // ---- blots

  private static void blot() {
    RingSign x = of(FULL.repeat(7));
    Check.tray(x, 0, 0, 17);
    Check.due("all", x.blot(0), 127);
    Check.tray(x, 0, 0, 16);
    Check.due("none", x.blot(0), 0);
    x.stroke(6, 8);
    Check.due("the last one", x.blot(0), 64);
    Check.tray(x, 0, 0, 0, 1);
    Check.due("what can't be", x.blot(0), 0);
    Check.tray(x, 3, 3, 1, 1, 1);
    Check.due("told thrice", x.blot(3), 127);
    RingSign none = new RingSign();
    Check.tray(none, 0, 0, 1);
    Check.due("no people", none.blot(0), 0);
  }

  /** The codes of blot(), or of look(). */
  private static void blotCodes(int look) {
    RingSign x = of(BARE + FULL);
    for (int tray : NO_TRAYS) Check.due("tray " + tray, look(x, tray, look), -2);
    for (int tray = 0; tray < 4; tray++) Check.due("missing " + tray, look(x, tray, look), -6);
    for (int n : new int[] {0, 19, 20, 40}) {
      x.numbers(2, 1, n);
      Check.due(n + " numbers", look(x, 2, look), -4);
    }
    // Too many go ahead of one that is none such.
    x.numbers(2, 1, 19);
    x.write(2, 0, 18);
    Check.due("19 numbers, and a wrong one", look(x, 2, look), -4);
    x.numbers(2, 1, 18);
    Check.due("18 numbers", look(x, 2, look) >= 0 ? 0 : 1, 0);
    for (long v : new long[] {18, 19, 127, -1, -18, Long.MIN_VALUE, Long.MAX_VALUE, 1L << 32, (1L << 32) + 1, -(1L << 32)}) {
      Check.tray(x, 3, 3, v);
      Check.due("none such: " + v, look(x, 3, look), -3);
      Check.tray(x, 3, 3, 0, 1, v);
      Check.due("ahead of NONE: " + v, look(x, 3, look), -3);
    }
    for (long v = 0; v < 18; v++) {
      Check.tray(x, 3, 3, v);
      Check.that("one such: " + v, look(x, 3, look) >= 0);
    }
  }

  private static int look(RingSign x, int tray, int look) { return look == 1 ? x.look(tray) : x.blot(tray); }

  private static void likely() {
    RingSign x = of("person 4 0 0 odds 9;person 4 0 0 odds 6;person 4 0 0 odds 0;person 0 0 0 odds 5;");
    Check.tray(x, 0, 0, 1);
    int[][] due = {{3, 5}, {2, 5}, {0, 1}, {0, 1}};
    for (int p = 0; p < 4; p++) for (int what = 0; what < 2; what++) Check.due("likely(0, " + p + ", " + what + ")", x.likely(0, p, what), due[p][what]);
    Check.tray(x, 0, 0, 0);
    Check.due("it alone", x.likely(0, 3, 0), 1);
    Check.due("it alone", x.likely(0, 3, 1), 1);
    Check.due("another one", x.likely(0, 0, 0), 0);
    Check.due("another one", x.likely(0, 0, 1), 1);
    RingSign seven = of("person 0 0 0 odds 9;".repeat(7));
    Check.tray(seven, 0, 0, 0);
    Check.due("9 of 63", seven.likely(0, 6, 0), 1);
    Check.due("9 of 63", seven.likely(0, 6, 1), 7);
    RingSign lowest = of("person 0 0 0 odds 8;person 0 0 0 odds 9;");
    Check.tray(lowest, 0, 0, 0);
    Check.due("8 of 17", lowest.likely(0, 0, 0), 8);
    Check.due("8 of 17", lowest.likely(0, 0, 1), 17);
  }

  private static void likelyNone() {
    RingSign x = of("person 4 0 0 odds 0;person 4 0 0 odds 0;" + BARE);
    Check.tray(x, 0, 0, 1);
    for (int p = 0; p < 3; p++) for (int what = 0; what < 2; what++) Check.due("odds of all these are 0", x.likely(0, p, what), -1);
    Check.tray(x, 0, 0, 0, 1);
    for (int p = 0; p < 3; p++) for (int what = 0; what < 2; what++) Check.due("there are none", x.likely(0, p, what), -1);
    Check.tray(x, 0, 0, 0);
    Check.due("there is one", x.likely(0, 2, 0), 1);
  }

  private static void noLikely() {
    RingSign x = of("person 0 0 0 odds 0;person 0 0 0 odds 0;");
    for (int tray : NO_TRAYS) Check.due("tray " + tray, x.likely(tray, 0, 0), -2);
    for (int p : NOT_TWO) {
      Check.due("ahead of missing: person " + p, x.likely(0, p, 0), -2);
      Check.due("ahead of missing: what " + p, x.likely(0, 0, p), -2);
    }
    for (int tray = 0; tray < 4; tray++) Check.due("missing", x.likely(tray, 0, 0), -6);
    Check.tray(x, 0, 0);
    Check.due("no numbers", x.likely(0, 0, 0), -4);
    for (int p : NOT_TWO) Check.due("ahead of -4: person " + p, x.likely(0, p, 0), -2);
    x.numbers(0, 0, 19);
    Check.due("19 numbers", x.likely(0, 0, 0), -4);
    x.write(0, 3, 99);
    Check.due("19 numbers, and a wrong one", x.likely(0, 0, 0), -4);
    Check.tray(x, 0, 0, 18);
    Check.due("one is none such", x.likely(0, 1, 1), -3);
    for (int p : NOT_TWO) Check.due("ahead of -3: what " + p, x.likely(0, 0, p), -2);
    Check.tray(x, 0, 0, 0, 1, -1);
    Check.due("ahead of NONE", x.likely(0, 0, 0), -3);
    Check.tray(x, 0, 0, 0);
    Check.due("NONE", x.likely(0, 0, 0), -1);
    Check.due("-2 ahead of NONE", x.likely(0, 2, 0), -2);
    Check.due("-2 ahead of NONE", x.likely(0, 0, 2), -2);
    RingSign none = new RingSign();
    Check.tray(none, 0, 0, 1);
    Check.due("no people", none.likely(0, 0, 0), -2);
  }

  private static void look() {
    // Cell c parts 0 from the others alone where 0 has ink.
    for (int c = 1; c < 9; c++) {
      RingSign x = of(Check.person(1 << c, "") + BARE + BARE);
      Check.tray(x, 0, 0, 0);
      Check.due("cell " + c, x.look(0), c);
    }
    RingSign one = of(FULL);
    Check.tray(one, 0, 0, 1);
    Check.due("one alone: the first cell, which tells nothing", one.look(0), 0);
    RingSign zero = of("person 4 0 0 odds 0;person 0 4 0 odds 0;");
    Check.tray(zero, 0, 0, 16);
    Check.due("odds of 0: the first cell", zero.look(0), 0);
    // Cell 1 parts 9 from 3, cell 4 parts 7 from 5, cell 7 parts 5 from 7: the first of like ones.
    RingSign x = of("person 2 0 0 odds 4;person 2 2 0 odds 5;person 0 2 2 odds 2;person 0 0 2 odds 1;");
    Check.tray(x, 0, 0, 0);
    Check.due("the greatest lesser one", x.look(0), 4);
    // Both ways: that more have ink is as good as that more have none.
    RingSign y = of("person 7 7 6 odds 3;person 7 7 7 odds 2;person 7 7 7 odds 2;");
    Check.tray(y, 0, 0, 1);
    Check.due("the last cell", y.look(0), 8);
    // Of those who are no longer in question none counts.
    RingSign z = of("person 4 2 0;person 4 1 0;person 0 4 0 odds 9;person 1 4 0 odds 9;");
    Check.tray(z, 0, 0, 1);
    Check.due("cell 4 parts 0 from 1", z.look(0), 4);
  }

  private static void lookNone() {
    RingSign x = of(BARE + FULL);
    Check.tray(x, 0, 0, 0, 1);
    Check.due("there are none", x.look(0), -1);
    Check.tray(x, 0, 0, 1, 2);
    Check.due("there are none", x.look(0), -1);
    RingSign none = new RingSign();
    Check.tray(none, 0, 0, 1);
    Check.due("no people", none.look(0), -1);
  }

  // ---- marks

  private static void marksOf() {
    RingSign x = of("person 0 0 0 mark 3;person 0 0 0 mark 4;likes:mark+theirs-9;");
    Check.tray(x, 0, 0, 1, 0);
    Check.due("0 by 6 to 9", x.marks(0, 0), 960);
    Check.due("1 by 7 to 9", x.marks(0, 1), 896);
    Check.tray(x, 1, 3, -1, -1);
    Check.due("0 by 0 to 5", x.marks(1, 0), 63);
    Check.due("1 by 0 to 6", x.marks(1, 1), 127);
    Check.due("marks stay", x.person(0, 2) * 10 + x.person(1, 2), 34);
    Check.due("nothing to undo", x.count(5), 0);
    RingSign one = of(BARE);
    Check.tray(one, 0, 0, -1);
    Check.due("all", one.marks(0, 0), 1023);
    RingSign no = of(BARE + BARE + "fits:1=2;");
    Check.tray(no, 0, 0, 1, 0);
    Check.due("none", no.marks(0, 0), 0);
    RingSign seven = of(BARE.repeat(7));
    Check.tray(seven, 0, 0, 1, 0, 3, 2, 5, 4, -1);
    Check.due("of seven", seven.marks(0, 6), 1023);
    Check.tray(seven, 0, 0, 1, 0, 3, 2, 6, -1, 4);
    Check.due("of seven, who would leave", seven.marks(0, 6), 0);
    // Who is with whom now is of no use.
    seven.engage(0, 6);
    Check.tray(seven, 0, 0, 1, 0, 3, 2, 5, 4, -1);
    Check.due("whoever is with whom", seven.marks(0, 0), 1023);
  }

  /** The codes of marks(), or of ask(). */
  private static void answerCodes(boolean ask) {
    RingSign x = of(BARE + BARE);
    for (int tray : NO_TRAYS) Check.due("tray " + tray, answer(x, tray, 0, ask), -2);
    for (int p : NOT_TWO) Check.due("ahead of missing: person " + p, answer(x, 0, p, ask), -2);
    for (int tray = 0; tray < 4; tray++) Check.due("missing", answer(x, tray, 0, ask), -6);
    for (int n : new int[] {0, 1, 3, 7, 40}) {
      x.numbers(0, 1, n);
      Check.due(n + " numbers", answer(x, 0, 0, ask), -4);
      if (n > 0) x.write(0, 0, 99);
      Check.due(n + " numbers, and a wrong one", answer(x, 0, 1, ask), -4);
      Check.due("-2 ahead of -4", answer(x, 0, 2, ask), -2);
    }
    long[][] wrong = {{2, -1}, {-1, 2}, {-2, -1}, {-1, -2}, {0, -1}, {-1, 1}, {1, -1}, {-1, 0}, {1, 1}, {0, 0}, {0, 1}, {1, 2}, {1, -2},
        {1L << 32, -1}, {1, 1L << 32}, {(1L << 32) + 1, 0}, {Long.MIN_VALUE, -1}, {-1, Long.MAX_VALUE}};
    for (long[] numbers : wrong) {
      Check.tray(x, 0, 3, numbers);
      Check.due(java.util.Arrays.toString(numbers), answer(x, 0, 0, ask), -3);
      Check.due(java.util.Arrays.toString(numbers), answer(x, 0, 1, ask), -3);
      Check.due("-2 ahead of -3", answer(x, 0, -1, ask), -2);
    }
    // Ahead of NONE, where there is nobody else to be asked of.
    RingSign one = of(BARE);
    Check.tray(one, 0, 0, 0);
    Check.due("with itself", answer(one, 0, 0, ask), -3);
    Check.tray(one, 0, 0, -1, -1);
    Check.due("two numbers", answer(one, 0, 0, ask), -4);
    Check.due("missing", answer(one, 1, 0, ask), -6);
    Check.due("no such one", answer(one, 0, 1, ask), -2);
    Check.due("no people", answer(new RingSign(), 0, 0, ask), -2);
  }

  private static int answer(RingSign x, int tray, int p, boolean ask) { return ask ? x.ask(tray, p) : x.marks(tray, p); }

  private static void ask() {
    // Any mark goes, since the others like nobody; 0 would be with 1, 2, 3 by marks from 3, 5, 7 on.
    RingSign x = of(BARE.repeat(4) + "likes:(1-who)*(mark-2*whom)-who*99;");
    Check.tray(x, 0, 0, -1, -1, -1, -1);
    Check.due("all marks", x.marks(0, 0), 1023);
    Check.due("five to five", x.ask(0, 0), 2);
    RingSign same = of(BARE.repeat(7));
    Check.tray(same, 0, 0, 1, 0, 3, 2, 5, 4, -1);
    Check.due("all alike: the first other one", same.ask(0, 0), 1);
    Check.due("all alike: the first other one", same.ask(0, 6), 0);
    // One mark alone tells nothing more: the first other one.
    RingSign one = of("person 0 0 0 mark 9;person 0 0 0 mark 9;" + BARE + "likes:mark-8+who*9;");
    Check.tray(one, 0, 0, 1, 0, -1);
    Check.due("9 alone", one.marks(0, 0), 512);
    Check.due("the first other one", one.ask(0, 0), 1);
    // With the last one by 9 alone, with the first others by none or all: one to nine is the greatest.
    RingSign last = of(BARE.repeat(4) + "likes:(mark-6-whom+who*who*99)*(1-who);");
    Check.tray(last, 0, 0, -1, -1, -1, -1);
    Check.due("all marks", last.marks(0, 0), 1023);
    // From 8, 9 and never on: two to eight with 1, one to nine with 2, none with 3.
    Check.due("two to eight", last.ask(0, 0), 1);
    Check.due("marks stay", last.person(0, 2), 0);
    Check.due("nothing to undo", last.count(5), 0);
    // By mark 0 alone it would be with 2, by none with 1.
    RingSign zero = of(BARE.repeat(3) + "likes:(1-mark)*(whom-1)-who*99;");
    Check.tray(zero, 0, 0, -1, -1, -1);
    Check.due("mark 0 counts", zero.ask(0, 0), 2);
    // It likes 1 above 0 by marks from 5 on, 2 by marks from 6 on: by 4 and 5 it likes them by just 0.
    RingSign just = of(BARE + "person 0 0 0 mark 4;person 0 0 0 mark 5;likes:mark-theirs-who*20;");
    Check.tray(just, 0, 0, -1, -1, -1);
    Check.due("just 0 isn't above it", just.ask(0, 0), 1);
    // 0 is with 1, so it has a mark from 5 on: by two of these five it would be with 2 (7 - mark), by one with 3
    // (mark - 8). The other marks, by all of which it would be with 2, don't count.
    RingSign these = of(BARE.repeat(4) + "likes:(1-who)*(mark*(1-2*(whom-1)*(3-whom))-2-2*whom+13*(whom-1)*(3-whom))+who-who*(who-1)*999;");
    Check.tray(these, 0, 0, 1, 0, -1, -1);
    Check.due("5 to 9", these.marks(0, 0), 992);
    Check.due("two to three", these.ask(0, 0), 2);
  }

  private static void askNone() {
    RingSign one = of(BARE);
    Check.tray(one, 0, 0, -1);
    Check.due("there is nobody else", one.ask(0, 0), -1);
    Check.due("though there are marks", one.marks(0, 0), 1023);
    RingSign x = of(BARE + BARE);
    Check.tray(x, 0, 0, -1, -1);
    Check.due("no marks", x.ask(0, 0), -1);
    Check.due("no marks", x.ask(0, 1), -1);
    Check.tray(x, 0, 0, 1, 0);
    Check.due("there are marks", x.ask(0, 1), 0);
  }

  // ---- by turns

  private static void wins() {
    RingSign x = of(BARE.repeat(7));
    for (int set = 0; set < 128; set++) {
      int many = Integer.bitCount(set);
      Check.due("set " + set, x.wins(set), many == 1 || many == 3 ? 1 : 0);
    }
    RingSign y = of(FULL.repeat(3));
    int[] due = {0, 1, 1, 0, 1, 0, 0, 0};
    for (int set = 0; set < 8; set++) Check.due("set " + set, y.wins(set), due[set]);
    Check.due("no people", new RingSign().wins(0), 0);
  }

  private static void noTurns() {
    RingSign x = of(BARE.repeat(3));
    for (int set : OTHERS) {
      Check.due("wins(" + set + ")", x.wins(set), -3);
      Check.due("best(" + set + ")", x.best(set), -3);
      Check.due("lasts(" + set + ")", x.lasts(set), -3);
    }
    Check.due("nobody is no others", x.lasts(0), 3);
    Check.due("all are no others", x.lasts(7), 0);
    Check.due("an eighth of seven", of(BARE.repeat(7)).lasts(128), -3);
    Check.due("of no people", new RingSign().lasts(1), -3);
  }

  private static void best() {
    RingSign x = of(BARE.repeat(7));
    Check.due("0", x.best(64), 0);
    Check.due("1, since 0 is in it", x.best(1), 1);
    Check.due("6, the last of four", of("person 7 7 7;".repeat(3) + BARE.repeat(4) + "fits:ink=0;").best(8 + 16 + 32), 6);
    // By 0 it would lose: behind the small one another small one may be added. By 2, which is full, nothing is left.
    RingSign y = of("person 4 0 0;person 4 0 0;person 7 7 7;fits:ink=1 or ink=2 or ink=9;");
    Check.due("by 2", y.best(0), 2);
    Check.due("it wins", y.wins(0), 1);
    Check.due("who comes then can't", y.best(4), -1);
    Check.due("the other small one", y.best(1), 1);
  }

  private static void bestNone() {
    Check.due("no people", new RingSign().best(0), -1);
    Check.due("all are in it", of(BARE).best(1), -1);
    Check.due("two are left", of(BARE + BARE).best(0), -1);
    Check.due("four are in it", of(BARE.repeat(5)).best(15), -1);
    Check.due("five are in it", of(BARE.repeat(6)).best(31), -1);
    // -3 goes ahead of NONE.
    Check.due("others", of(BARE).best(2), -3);
    Check.due("others, and all", of(BARE).best(3), -3);
    Check.due("no people", new RingSign().best(1), -3);
  }

  private static void lasts() {
    RingSign x = of(BARE.repeat(7));
    for (int set = 0; set < 128; set++) Check.due("set " + set, x.lasts(set), Math.max(0, 4 - Integer.bitCount(set)));
    // Who wins ends it at once by 3, though by 0 it would win in three turns.
    RingSign soon = of("person 4 0 0;person 4 0 0;person 4 0 0;person 7 0 0;fits:ink<4;");
    Check.due("as soon as can be", soon.lasts(0), 1);
    Check.due("without it", soon.lasts(1), 2);
    // Who loses by whatever it does: by 2 in two turns, by a small one in four.
    RingSign late = of("person 4 0 0;person 0 0 0;person 7 4 0;person 7 7 0;person 4 0 0;fits:ink<7;");
    Check.due("as late as can be", late.lasts(0), 4);
    Check.due("the first of these", late.lasts(8), 1);
    Check.due("no people", new RingSign().lasts(0), 0);
    Check.due("none fits", of(BARE + "fits:1=2;").lasts(0), 0);
  }
}
