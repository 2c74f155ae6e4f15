/** The edges of each call, sentence by sentence: promises 1 to 24. */
public final class CallEdgesTest {
  private static final String BARE = "person 0 0 0;";
  private static final String FULL = "person 7 7 7;";
  private static final String BY_MARK = "likes:9-(whom-mark)*(whom-mark);";
  private static final String TWO_WAYS = "person 7 7 7 mark 2;person 7 7 7 mark 3;person 0 0 0 mark 1;person 0 0 0 mark 0;fits:cross=0;" + BY_MARK;
  private static final String NO_WAY = "person 0 0 0 mark 1;person 0 0 0 mark 2;person 0 0 0 mark 0;" + BY_MARK;
  /** None of these is one of two people, or a number from 0 to 1. */
  private static final int[] NOT_TWO = {2, 3, 7, 31, 32, 33, -1, -2, Integer.MIN_VALUE, Integer.MIN_VALUE + 1, Integer.MAX_VALUE};
  private static final int BLANK = 0x20202020;

  public static void main(String[] args) {
    society();
    deeds();
    holding();
    Check.end();
  }

  private static RingSign of(String lines) { return Check.of("society;" + lines); }

  private static void society() {
    Doc.promise(1).says("No PEOPLE.", CallEdgesTest::newObject).end();
    Doc.promise(2)
        .says("Twenty bytes come behind those on THE TAPE, the highest of each int first: how many it has.", CallEdgesTest::feed)
        .says("-5: it would have more than 900.", CallEdgesTest::feedTooMuch).end();
    Doc.promise(3)
        .says("The first n bytes of THE TAPE (which is empty then) are THE SOCIETY,", CallEdgesTest::firstBytes)
        .says("nothing can be UNDONE:", CallEdgesTest::societyForgets)
        .says("how many LINES (society, too; all stays with a FAULT).", CallEdgesTest::societyLines)
        .says("-3: n is below 0 or above what there is (THE TAPE stays);", CallEdgesTest::societyNumber)
        .says("-30 less the FAULT.", CallEdgesTest::societyFaults).end();
    Doc.promise(4)
        .says("Of the latest society() that was read,", CallEdgesTest::latestRead)
        .says("what 0: its FAULT (0), 1: its place (NONE).", CallEdgesTest::faultAndPlace)
        .says("NONE for others.", CallEdgesTest::otherFaults).end();
    Doc.promise(5)
        .says("Of a PERSON, what 0: its SIGN, as bits (CELL 0 the lowest), 1: how many CELLS have INK, 2: mark, 3: shy, 4: odds,"
            + " 5: with whom it is (NONE), 6: whom it MATCHES, as bits.", CallEdgesTest::person)
        .says("-2.", CallEdgesTest::noPerson).end();
    Doc.promise(6)
        .says("CROSSINGS of the MONOGRAM of two.", CallEdgesTest::crosses)
        .says("-2: PEOPLE, both one.", CallEdgesTest::noCrosses).end();
    Doc.promise(7)
        .says("How much one LIKES another one.", CallEdgesTest::likes)
        .says("-99000002: PEOPLE, both one.", CallEdgesTest::noLikes).end();
  }

  private static void deeds() {
    Doc.promise(8)
        .says("To get ENGAGED: how many are with nobody by it who were with these ahead.", CallEdgesTest::engage)
        .says("-11 to -14.", CallEdgesTest::noEngage).end();
    Doc.promise(9).says("To PART: from whom.", CallEdgesTest::part).says("-11, -12.", CallEdgesTest::noPart).end();
    Doc.promise(10)
        .says("A STROKE: 1 if there is INK then, else 0.", CallEdgesTest::stroke)
        .says("-11.", CallEdgesTest::noStroke).end();
    Doc.promise(11).says("To have a MARK (0 to 9): what it was.", CallEdgesTest::mark).says("-11.", CallEdgesTest::noMark).end();
    Doc.promise(12)
        .says("n calls (1 to 10) are UNDONE: how many still can be.", CallEdgesTest::undo)
        .says("-3: n, more than can be.", CallEdgesTest::noUndo).end();
    Doc.promise(13)
        .says("DEEDS, judged as if done,", CallEdgesTest::judgeChangesNothing)
        .says("what 0: the first place that can't be (NONE), 1: why (0),", CallEdgesTest::judgePlace)
        .says("2: who is with somebody then, as bits, 3: CELLS with INK of all SIGNS then.", CallEdgesTest::judgeThen)
        .says("-2: the TRAY, what; -6.", CallEdgesTest::noJudge).end();
    Doc.promise(14)
        .says("They are done, till one can't be: how many.", CallEdgesTest::perform)
        .says("-2; -6.", CallEdgesTest::noPerform).end();
    Doc.promise(15)
        .says("A YEAR: how many could be.", CallEdgesTest::year)
        .says("-3: how many times.", CallEdgesTest::noYear).end();
  }

  private static void holding() {
    Doc.promise(16).says("Whether the PAIRING as it is HOLDS: 1 if so, else 0.", CallEdgesTest::holds).end();
    Doc.promise(17).says("How many twos BREAK it.", CallEdgesTest::breaks).end();
    Doc.promise(18)
        .says("The first two that do: 10 times the lesser number, and the other one.", CallEdgesTest::breaking)
        .says("NONE: none do.", CallEdgesTest::noBreaking).end();
    Doc.promise(19).says("How many PAIRINGS HOLD.", CallEdgesTest::pairings).end();
    Doc.promise(20)
        .says("In the k-th PAIRING that HOLDS with whom a PERSON is.", CallEdgesTest::partner)
        .says("NONE: with nobody, not so many;", CallEdgesTest::partnerNone)
        .says("-2; -3: k is below 0.", CallEdgesTest::noPartner).end();
    Doc.promise(21)
        .says("With whom a PERSON is in some PAIRING that HOLDS, as bits.", CallEdgesTest::can)
        .says("-2.", CallEdgesTest::noCan).end();
    Doc.promise(22)
        .says("PEOPLE who are with the same one (or with nobody) in all PAIRINGS that HOLD, as bits", CallEdgesTest::sure)
        .says("(if none HOLDS: all).", CallEdgesTest::sureOfNone).end();
    Doc.promise(23).says("The most twos that can be with each other at once, all who are MATCHING.", CallEdgesTest::most).end();
    Doc.promise(24)
        .says("The first TRIANGLE: 100 a and 10 b and c, the least.", CallEdgesTest::triangle)
        .says("NONE: there is none.", CallEdgesTest::noTriangle).end();
  }

  // ---- the society

  private static void newObject() {
    RingSign x = new RingSign();
    Check.due("people", x.count(0), 0);
    for (int p = -1; p < 8; p++) Check.due("no " + p, x.person(p, 0), -2);
    Check.due("nobody is with anybody", x.count(1), 0);
    Check.due("no set", x.fits(1), -3);
    Check.due("the largest set", x.largest(), 0);
    Check.due("two new ones know nothing of each other", Check.of("society;" + BARE).count(0) + new RingSign().count(0), 1);
  }

  private static void feed() {
    RingSign x = new RingSign();
    // Each byte of each int in its place: a law of twenty signs behind one of twenty.
    Check.due("20", x.feed(0x736f6369, 0x6574793b, 0x6c696b65, 0x733a313b, 0x6c696b65), 20);
    Check.due("40", x.feed(0x733a3b20, -1, 0, Integer.MIN_VALUE, Integer.MAX_VALUE), 40);
    Check.due("the fault stands behind the 23rd byte", x.society(40), -32);
    Check.due("its place", x.fault(1), 22);
    Check.feed(x, "society;" + " ".repeat(12));
    Check.due("bytes of 255", x.feed(BLANK, BLANK, BLANK, BLANK, 0x202020ff), 40);
    Check.due("it is no token", x.society(40), -31);
    Check.due("the last byte", x.fault(1), 39);
    Check.feed(x, "society;" + " ".repeat(12));
    x.feed(0x80000000, BLANK, BLANK, BLANK, BLANK);
    Check.due("the highest of the first int", x.society(40), -31);
    Check.due("its place", x.fault(1), 20);
    for (int i = 1; i <= 45; i++) Check.due("bytes", x.feed(0, 0, 0, 0, 0), 20 * i);
  }

  private static void feedTooMuch() {
    RingSign x = new RingSign();
    Check.feed(x, "society;" + BARE + " ".repeat(879));
    Check.due("full", x.count(6), 900);
    for (int i = 0; i < 3; i++) Check.due("once more", x.feed(-1, -1, -1, -1, -1), -5);
    Check.due("full still", x.count(6), 900);
    Check.due("nothing of it came", x.society(900), 2);
    Check.due("empty", x.feed(BLANK, BLANK, BLANK, BLANK, BLANK), 20);
  }

  private static void firstBytes() {
    RingSign x = new RingSign();
    Check.feed(x, "society;" + BARE + BARE);
    Check.due("the first 21", x.society(21), 2);
    Check.due("one", x.count(0), 1);
    Check.due("the tape is empty", x.count(6), 0);
    Check.feed(x, "society;" + BARE + BARE);
    Check.due("the first 34", x.society(34), 3);
    Check.due("two", x.count(0), 2);
    Check.feed(x, "society;" + BARE + ",");
    Check.due("with a fault", x.society(22), -31);
    Check.due("the tape is empty, too", x.count(6), 0);
    Check.due("nothing on it", x.society(0), -32);
    Check.due("place", x.fault(1), 0);
    // Nothing of a greater society is left in a lesser one.
    String[] lesser = {"", BARE, FULL + BARE, BARE.repeat(3), NO_WAY, TWO_WAYS};
    for (String lines : lesser) {
      RingSign y = of("person 4 2 1 mark 3 shy 4 odds 5;".repeat(5) + BARE + BARE + "engaged 1 2;engaged 3 6;likes:3+whom;fits:many<4;");
      Check.all(y);
      Check.that("told again", Check.tell(y, "society;" + lines) > 0);
      Check.that("as if it were the first: " + lines, Check.all(y).equals(Check.all(of(lines))));
    }
  }

  private static void societyForgets() {
    RingSign x = of(BARE);
    for (int i = 0; i < 10; i++) x.stroke(0, i % 9);
    Check.due("ten", x.count(5), 10);
    Check.due("another one", Check.tell(x, "society;" + BARE), 2);
    Check.due("none", x.count(5), 0);
    Check.due("undo", x.undo(1), -3);
    x.mark(0, 1);
    Check.due("with a fault", Check.tell(x, "society"), -32);
    Check.due("all stays", x.undo(1), 0);
    Check.due("its mark", x.person(0, 2), 0);
  }

  private static void societyLines() {
    RingSign x = new RingSign();
    Check.due("one line", Check.tell(x, "society;"), 1);
    Check.due("six lines", Check.tell(x, "society;" + BARE + BARE + "engaged 0 1;likes:2;fits:1=2;"), 6);
    String all = "6 0 2 3 1 0 0 2 0 6";
    Check.due("a fault behind four lines", Check.tell(x, "society;" + FULL + FULL + "likes:0;fits:1=1;,"), -31);
    String got = x.count(7) + " " + x.person(0, 0) + " " + x.count(0) + " " + x.count(1) + " " + x.count(2) + " " + x.fits(1) + " " + x.fits(3)
        + " " + x.likes(0, 1) + " " + x.count(5) + " " + x.count(7);
    Check.that("all stays: " + got, got.equals(all));
  }

  private static void societyNumber() {
    RingSign x = of(FULL);
    for (int n : new int[] {-1, 1, 20, Integer.MIN_VALUE, Integer.MAX_VALUE}) Check.due("n of an empty tape: " + n, x.society(n), -3);
    Check.feed(x, "society;" + BARE);
    for (int n : new int[] {-1, 41, 900, 901, Integer.MIN_VALUE, Integer.MAX_VALUE}) Check.due("n: " + n, x.society(n), -3);
    Check.due("the tape stays", x.count(6), 40);
    Check.due("the society, too", x.person(0, 0), 511);
    Check.due("the fault, too", x.fault(0), 0);
    Check.due("all that there is", x.society(40), 2);
    Check.due("it is read", x.person(0, 0), 0);
  }

  private static void societyFaults() {
    RingSign x = of(FULL);
    Check.due("1", Check.tell(x, "society;,"), -31);
    Check.due("2", Check.tell(x, "society;;"), -32);
    Check.due("3", Check.tell(x, "society;person 8"), -33);
    Check.due("4", Check.tell(x, "society;" + BARE.repeat(8)), -34);
    Check.due("the society stays", x.person(0, 0), 511);
  }

  private static void latestRead() {
    RingSign x = new RingSign();
    Check.due("none was read", x.fault(0), 0);
    Check.due("none was read", x.fault(1), -1);
    x.society(1);
    Check.due("refused, not read", x.fault(0), 0);
    Check.tell(x, "society;person 8");
    Check.due("read", x.fault(0), 3);
    x.society(-1);
    x.society(1);
    Check.due("refused, not read", x.fault(0), 3);
    Check.due("its place", x.fault(1), 15);
    Check.tell(x, "society,");
    Check.due("read", x.fault(0), 1);
    Check.due("its place", x.fault(1), 7);
    x.image(0);
    Check.tell(x, "society;");
    Check.due("without a fault", x.fault(0), 0);
    Check.due("without a place", x.fault(1), -1);
    x.restore(0);
    Check.due("nothing was read", x.fault(0), 0);
  }

  private static void faultAndPlace() {
    RingSign x = new RingSign();
    String[] texts = {"society;,", "society;;", "society;person 8", "society;" + BARE.repeat(8), "society"};
    int[] kinds = {1, 2, 3, 4, 2};
    int[] places = {8, 8, 15, 8 + 7 * 13, 7};
    for (int i = 0; i < texts.length; i++) {
      Check.tell(x, texts[i]);
      Check.due("fault of " + texts[i], x.fault(0), kinds[i]);
      Check.due("place of " + texts[i], x.fault(1), places[i]);
    }
    Check.tell(x, "society;");
    Check.due("no fault", x.fault(0), 0);
    Check.due("no place", x.fault(1), -1);
  }

  private static void otherFaults() {
    RingSign x = new RingSign();
    Check.tell(x, "society;person 8");
    for (int what : NOT_TWO) Check.due("what " + what, x.fault(what), -1);
  }

  private static void person() {
    RingSign x = of("person 4 0 1 mark 9 shy 10 odds 0;" + BARE + FULL + BARE.repeat(4) + "engaged 6 0;fits:ink<9;");
    int[][] due = {{257, 2, 9, 10, 0, 6, 2 + 8 + 16 + 32 + 64}, {0, 0, 0, 0, 1, -1, 1 + 8 + 16 + 32 + 64}, {511, 9, 0, 0, 1, -1, 0}};
    for (int p = 0; p < 3; p++) for (int what = 0; what <= 6; what++) Check.due("person(" + p + ", " + what + ")", x.person(p, what), due[p][what]);
    Check.due("the last one", x.person(6, 5), 0);
    Check.due("the last one", x.person(6, 6), 1 + 2 + 8 + 16 + 32);
  }

  private static void noPerson() {
    RingSign x = of(BARE + BARE);
    for (int p : NOT_TWO) for (int what = 0; what <= 6; what++) Check.due("person(" + p + ", " + what + ")", x.person(p, what), -2);
    for (int what : new int[] {7, 8, -1, 32, Integer.MIN_VALUE, Integer.MAX_VALUE}) Check.due("what " + what, x.person(0, what), -2);
    // With nobody is NONE; but who isn't there is -2.
    Check.due("with nobody", x.person(1, 5), -1);
    Check.due("who isn't there", x.person(2, 5), -2);
    for (int p = 0; p < 8; p++) Check.due("of seven: " + p, of(BARE.repeat(7)).person(p, 5), p < 7 ? -1 : -2);
  }

  private static void crosses() {
    RingSign x = of(FULL.repeat(7));
    for (int p = 0; p < 7; p++) for (int q = 0; q < 7; q++) if (p != q) Check.due(p + " and " + q, x.crosses(p, q), 1);
    for (int corner : new int[] {0, 2, 6, 8}) {
      x.stroke(3, corner);
      Check.due("less a corner", x.crosses(3, 6), 0);
      Check.due("less a corner", x.crosses(6, 3), 0);
      Check.due("less a corner", x.crosses(0, 3), 0);
      Check.due("the others stay", x.crosses(2, 6), 1);
      x.stroke(3, corner);
      Check.due("as it was", x.crosses(3, 6), 1);
      Check.due("as it was", x.crosses(0, 3), 1);
    }
  }

  private static void noCrosses() {
    RingSign x = of(BARE + BARE);
    for (int p : NOT_TWO) {
      Check.due("crosses(" + p + ", 0)", x.crosses(p, 0), -2);
      Check.due("crosses(1, " + p + ")", x.crosses(1, p), -2);
      Check.due("both", x.crosses(p, p), -2);
    }
    Check.due("both one", x.crosses(0, 0), -2);
    Check.due("both one", x.crosses(1, 1), -2);
  }

  private static void likes() {
    RingSign x = of(BARE.repeat(7) + "likes:who*10+whom;");
    for (int p = 0; p < 7; p++) for (int q = 0; q < 7; q++) if (p != q) Check.due(p + " likes " + q, x.likes(p, q), 10 * p + q);
    Check.due("the most", of(BARE + BARE + "likes:999*999*999;").likes(1, 0), 1000000);
    Check.due("the least", of(BARE + BARE + "likes:0-999*999*999;").likes(1, 0), -1000000);
    Check.due("0", of(BARE + BARE + "likes:0;").likes(1, 0), 0);
    RingSign y = of(BARE + BARE + "likes:mark*10+ink;");
    Check.due("as told", y.likes(0, 1), 0);
    y.mark(0, 5);
    y.stroke(1, 8);
    Check.due("after a mark and a stroke", y.likes(0, 1), 51);
    Check.due("after a mark and a stroke", y.likes(1, 0), 0);
    // No code of another call is one of this one's.
    Check.due("-2", of(BARE + BARE + "likes:0-2;").likes(1, 0), -2);
  }

  private static void noLikes() {
    RingSign x = of(BARE + BARE + "likes:5;");
    for (int p : NOT_TWO) {
      Check.due("likes(" + p + ", 0)", x.likes(p, 0), -99000002);
      Check.due("likes(1, " + p + ")", x.likes(1, p), -99000002);
      Check.due("both", x.likes(p, p), -99000002);
    }
    Check.due("both one", x.likes(0, 0), -99000002);
    Check.due("both one", x.likes(1, 1), -99000002);
    Check.due("no people", new RingSign().likes(0, 1), -99000002);
  }

  // ---- deeds

  private static void engage() {
    Check.due("0", of(BARE + BARE).engage(0, 1), 0);
    Check.due("0", of(BARE + BARE).engage(1, 0), 0);
    Check.due("1, left by the first", of(BARE.repeat(3) + "engaged 0 2;").engage(0, 1), 1);
    Check.due("1, left by the second", of(BARE.repeat(3) + "engaged 0 2;").engage(1, 0), 1);
    Check.due("2", of(BARE.repeat(4) + "engaged 0 2;engaged 1 3;").engage(0, 1), 2);
    RingSign x = of(BARE.repeat(7));
    Check.due("the last two", x.engage(6, 5), 0);
    Check.due("with whom", x.person(6, 5), 5);
    Check.due("with whom", x.person(5, 5), 6);
    Check.due("can be undone", x.count(5), 1);
  }

  private static void noEngage() {
    RingSign x = of(BARE.repeat(4) + "engaged 0 1;likes:(3-who)*(3-whom);");
    Check.due("1", x.engage(0, 4), -11);
    Check.due("1", x.engage(4, 0), -11);
    Check.due("1", x.engage(-1, 0), -11);
    Check.due("1, both one", x.engage(2, 2), -11);
    Check.due("2", x.engage(0, 1), -12);
    Check.due("2", x.engage(1, 0), -12);
    Check.due("3", x.engage(2, 3), -13);
    Check.due("3", x.engage(3, 0), -13);
    Check.due("4", x.engage(0, 2), -14);
    Check.due("4", x.engage(2, 1), -14);
    Check.due("nothing to undo", x.count(5), 0);
    Check.due("as it was", x.count(1), 3);
  }

  private static void part() {
    for (int p = 0; p < 4; p++) {
      RingSign x = of(BARE.repeat(4) + "engaged 0 3;engaged 2 1;");
      Check.due("from whom", x.part(p), 3 - p);
      Check.due("both are with nobody", x.person(p, 5) + x.person(3 - p, 5), -2);
      Check.due("the others stay", x.count(2), 1);
      Check.due("can be undone", x.count(5), 1);
      Check.due("undone", x.undo(1), 0);
      Check.due("as it was", x.person(p, 5), 3 - p);
    }
    // Those who don't match can part, too.
    Check.due("without matching", of(BARE + BARE + "engaged 0 1;likes:0;").part(1), 0);
  }

  private static void noPart() {
    RingSign x = of(BARE + BARE);
    for (int p : NOT_TWO) Check.due("part(" + p + ")", x.part(p), -11);
    Check.due("with nobody", x.part(0), -12);
    x.engage(0, 1);
    x.part(0);
    Check.due("with nobody any more", x.part(0), -12);
    Check.due("the other one, too", x.part(1), -12);
    Check.due("two were done", x.count(5), 2);
  }

  private static void stroke() {
    for (int c = 0; c < 9; c++) {
      RingSign x = of(BARE + "person 5 2 5;");
      Check.due("ink in " + c, x.stroke(0, c), 1);
      Check.due("none in " + c, x.stroke(0, c), 0);
      Check.due("of the other one", x.stroke(1, c), c % 2);
      Check.due("cells then", x.person(1, 1), c % 2 == 1 ? 6 : 4);
      Check.due("can be undone", x.count(5), 3);
    }
  }

  private static void noStroke() {
    RingSign x = of(BARE + BARE);
    for (int p : NOT_TWO) Check.due("stroke(" + p + ", 0)", x.stroke(p, 0), -11);
    for (int c : new int[] {9, 10, 31, 32, 33, -1, -32, Integer.MIN_VALUE, Integer.MAX_VALUE}) Check.due("stroke(0, " + c + ")", x.stroke(0, c), -11);
    Check.due("no ink", x.count(3), 0);
    Check.due("nothing to undo", x.count(5), 0);
  }

  private static void mark() {
    RingSign x = of("person 0 0 0 mark 9;person 0 0 0 mark 3;");
    Check.due("0", x.mark(0, 0), 9);
    Check.due("9", x.mark(0, 9), 0);
    Check.due("the same", x.mark(0, 9), 9);
    Check.due("of the other one", x.mark(1, 4), 3);
    Check.due("can be undone, the same one, too", x.count(5), 4);
    Check.due("undone", x.undo(4), 0);
    Check.due("as it was", x.person(0, 2), 9);
    Check.due("as it was", x.person(1, 2), 3);
  }

  private static void noMark() {
    RingSign x = of("person 0 0 0 mark 5;" + BARE);
    for (int p : NOT_TWO) Check.due("mark(" + p + ", 0)", x.mark(p, 0), -11);
    for (int n : new int[] {10, 11, 100, -1, -9, Integer.MIN_VALUE, Integer.MAX_VALUE}) Check.due("mark(0, " + n + ")", x.mark(0, n), -11);
    Check.due("as it was", x.person(0, 2), 5);
    Check.due("nothing to undo", x.count(5), 0);
  }

  private static void undo() {
    for (int n = 1; n <= 10; n++) {
      RingSign x = of(BARE);
      for (int i = 1; i <= 10; i++) x.mark(0, i % 10);
      Check.due("undo(" + n + ")", x.undo(n), 10 - n);
      Check.due("the mark", x.person(0, 2), 10 - n);
      Check.due("count(5)", x.count(5), 10 - n);
      if (n < 10) Check.due("the rest", x.undo(10 - n), 0);
      Check.due("the first", x.person(0, 2), 0);
    }
  }

  private static void noUndo() {
    RingSign x = of(BARE);
    for (int n : new int[] {0, 1, 10, 11, -1, Integer.MIN_VALUE, Integer.MAX_VALUE}) Check.due("of none: " + n, x.undo(n), -3);
    for (int i = 1; i <= 12; i++) {
      x.mark(0, i % 10);
      for (int n : new int[] {0, -1, Math.min(i, 10) + 1, 11, 12, Integer.MIN_VALUE, Integer.MAX_VALUE}) Check.due("of " + i + ": " + n, x.undo(n), -3);
      Check.due("nothing was undone", x.person(0, 2), i % 10);
    }
    Check.due("ten still can be", x.count(5), 10);
  }

  private static void judgeChangesNothing() {
    RingSign x = of("person 4 0 0 mark 1;" + BARE.repeat(3) + "engaged 0 1;");
    x.stroke(3, 3);
    Check.tray(x, 0, 1, 100, 23, 2, 200, 218, 309, 399);
    String before = Check.all(x);
    for (int what = 0; what <= 3; what++) x.judge(0, what);
    Check.that("nothing is done", before.equals(Check.all(x)));
    Check.due("what was done can be undone still", x.undo(1), 0);
    Check.due("that alone", x.person(3, 0), 0);
  }

  private static void judgePlace() {
    RingSign x = of(BARE.repeat(4));
    Check.tray(x, 0, 1);
    Check.due("no deeds", x.judge(0, 0), -1);
    Check.due("no deeds", x.judge(0, 1), 0);
    Check.tray(x, 0, 1, 1, 23, 100, 102);
    Check.due("all can be", x.judge(0, 0), -1);
    Check.due("all can be", x.judge(0, 1), 0);
    Check.tray(x, 0, 1, 400, 1);
    Check.due("the first can't", x.judge(0, 0), 0);
    Check.due("1", x.judge(0, 1), 1);
    Check.tray(x, 0, 1, 1, 1, 400);
    Check.due("the second can't", x.judge(0, 0), 1);
    Check.due("2", x.judge(0, 1), 2);
    Check.tray(x, 0, 1, 1, 2);
    Check.due("4", x.judge(0, 1), 4);
    Check.tray(x, 0, 1);
    Check.due("no deeds, behind those that couldn't be", x.judge(0, 1), 0);
    Check.due("no deeds, behind those that couldn't be", x.judge(0, 0), -1);
    // The fortieth of forty.
    x.numbers(1, 2, 40);
    for (int i = 0; i < 39; i++) x.write(1, i, 200 + i % 9);
    x.write(1, 39, 109);
    Check.due("the fortieth can't", x.judge(1, 0), 39);
    x.write(1, 39, 208);
    Check.due("all forty can", x.judge(1, 0), -1);
    RingSign y = of(BARE + BARE + "likes:0;");
    Check.tray(y, 0, 1, 300, 1);
    Check.due("3", y.judge(0, 1), 3);
    Check.due("the second", y.judge(0, 0), 1);
  }

  private static void judgeThen() {
    RingSign x = of("person 7 0 0;" + BARE.repeat(3) + "engaged 0 1;");
    Check.tray(x, 0, 1);
    Check.due("no deeds: as it is", x.judge(0, 2), 3);
    Check.due("no deeds: as it is", x.judge(0, 3), 3);
    Check.tray(x, 0, 1, 23, 238, 200);
    Check.due("all", x.judge(0, 2), 15);
    Check.due("one more and one less", x.judge(0, 3), 3);
    Check.tray(x, 0, 1, 23, 237, 238, 400, 100, 200);
    Check.due("as far as can be", x.judge(0, 2), 15);
    Check.due("as far as can be", x.judge(0, 3), 5);
    Check.tray(x, 0, 1, 400, 23, 200);
    Check.due("none can be", x.judge(0, 2), 3);
    Check.due("none can be", x.judge(0, 3), 3);
  }

  private static void noJudge() {
    RingSign x = of(BARE);
    Check.tray(x, 0, 1, 300);
    for (int tray : new int[] {4, -1, Integer.MIN_VALUE, Integer.MAX_VALUE}) Check.due("tray " + tray, x.judge(tray, 0), -2);
    for (int what : new int[] {4, -1, Integer.MIN_VALUE, Integer.MAX_VALUE}) {
      Check.due("what " + what, x.judge(0, what), -2);
      Check.due("ahead of missing: what " + what, x.judge(1, what), -2);
    }
    for (int tray = 1; tray < 4; tray++) for (int what = 0; what <= 3; what++) Check.due("missing", x.judge(tray, what), -6);
  }

  private static void perform() {
    RingSign x = of(BARE.repeat(4));
    Check.tray(x, 0, 1);
    Check.due("no deeds", x.perform(0), 0);
    Check.tray(x, 0, 1, 400);
    Check.due("none can be", x.perform(0), 0);
    Check.due("nothing to undo", x.count(5), 0);
    Check.tray(x, 0, 1, 1, 205, 400, 206);
    Check.due("two", x.perform(0), 2);
    Check.due("those two", x.count(1), 3);
    Check.due("those two", x.person(0, 0), 32);
    Check.due("one call", x.count(5), 1);
    x.numbers(1, 1, 40);
    for (int i = 0; i < 40; i++) x.write(1, i, i % 2 == 0 ? 23 : 102);
    Check.due("forty", x.perform(1), 40);
    Check.due("one call", x.count(5), 2);
    Check.due("the tray stays", x.perform(1), 40);
    Check.due("undone", x.undo(3), 0);
    Check.due("as it was", x.count(1), 0);
  }

  private static void noPerform() {
    RingSign x = of(BARE);
    for (int tray : new int[] {4, -1, Integer.MIN_VALUE, Integer.MAX_VALUE}) Check.due("tray " + tray, x.perform(tray), -2);
    for (int tray = 0; tray < 4; tray++) Check.due("missing", x.perform(tray), -6);
    Check.due("nothing to undo", x.count(5), 0);
  }

  private static void year() {
    // Seed 2 draws a stroke of 4 in cell 5, seed 4 mark 9 of 3, seed 3 the two 2 and 5, seed 1 the two 5 and 5.
    Check.due("it can be", of(BARE.repeat(5)).year(2, 1), 1);
    Check.due("there is no 4", of(BARE.repeat(4)).year(2, 1), 0);
    Check.due("it can be", of(BARE.repeat(4)).year(4, 1), 1);
    Check.due("there is no 3", of(BARE.repeat(3)).year(4, 1), 0);
    Check.due("they can", of(BARE.repeat(6)).year(3, 1), 1);
    Check.due("they don't match", of(BARE.repeat(6) + "likes:0;").year(3, 1), 0);
    Check.due("both one", of(BARE.repeat(7)).year(1, 1), 0);
    RingSign x = of(BARE.repeat(7));
    int could = x.year(99, 40);
    Check.that("some of forty could", could > 1 && could <= 40);
    Check.due("one call", x.count(5), 1);
    Check.due("undone as a whole", x.undo(1), 0);
    Check.due("no ink", x.count(3), 0);
    Check.due("none could", new RingSign().year(99, 40), 0);
  }

  private static void noYear() {
    RingSign x = of(BARE.repeat(7));
    for (int times : new int[] {0, -1, 41, 42, Integer.MIN_VALUE, Integer.MAX_VALUE}) Check.due("times " + times, x.year(3, times), -3);
    Check.due("nothing was done", x.count(1) + x.count(3) + x.count(5), 0);
    Check.that("one can", x.year(3, 1) >= 0);
    Check.that("forty can", x.year(3, 40) >= 0);
  }

  // ---- what holds

  private static void holds() {
    Check.due("no people", new RingSign().holds(), 1);
    Check.due("one", of(BARE).holds(), 1);
    RingSign x = of(BARE + BARE);
    Check.due("two who could", x.holds(), 0);
    x.engage(0, 1);
    Check.due("two who did", x.holds(), 1);
    x.part(1);
    Check.due("apart again", x.holds(), 0);
    RingSign seven = of(BARE.repeat(7) + "engaged 0 1;engaged 2 3;engaged 4 5;");
    Check.due("seven", seven.holds(), 1);
    seven.part(4);
    Check.due("three break it", seven.holds(), 0);
  }

  private static void breaks() {
    Check.due("no people", new RingSign().breaks(), 0);
    Check.due("one", of(BARE).breaks(), 0);
    Check.due("all twos of seven", of(BARE.repeat(7)).breaks(), 21);
    Check.due("none would", of(BARE.repeat(7) + "likes:0;").breaks(), 0);
    RingSign x = of(BARE.repeat(4) + "engaged 0 3;engaged 1 2;");
    // 0 and 1; 0 and 2: 2 likes 1 less than 0; 1 and 3: 3 is with 0, whom it likes better; 2 and 3 likewise.
    Check.due("0 with 1, 0 with 2", x.breaks(), 2);
    Check.due("two who don't match don't count", of(BARE + BARE + "engaged 0 1;likes:0;").breaks(), 0);
  }

  private static void breaking() {
    Check.due("0 and 1", of(BARE.repeat(7)).breaking(), 1);
    RingSign x = of(BARE.repeat(7) + "engaged 0 1;engaged 2 3;engaged 4 6;");
    Check.due("4 and 5", x.breaking(), 45);
    x.part(4);
    Check.due("4 and 5 still", x.breaking(), 45);
    x.engage(4, 5);
    Check.due("6 is left over", x.breaking(), -1);
    // Each likes the greater number better: 3 would leave 0 for 1, who doesn't fit with 2.
    Check.due("1 and 3", of(BARE + FULL + FULL + BARE + "engaged 3 0;likes:1+whom;fits:cross=0;").breaking(), 13);
    // 5 and 6 alone match: nobody else would.
    Check.due("the greatest", of(BARE.repeat(7) + "likes:who-4;fits:1=1;").breaking(), 56);
  }

  private static void noBreaking() {
    Check.due("no people", new RingSign().breaking(), -1);
    Check.due("one", of(BARE).breaking(), -1);
    Check.due("none would", of(BARE.repeat(7) + "likes:0;").breaking(), -1);
    Check.due("all are well", of(BARE.repeat(4) + "engaged 0 1;engaged 2 3;").breaking(), -1);
    Check.due("two who don't match", of(BARE + BARE + "engaged 0 1;likes:0;").breaking(), -1);
  }

  private static void pairings() {
    Check.due("no people: that nobody is with anybody", new RingSign().pairings(), 1);
    Check.due("one", of(BARE).pairings(), 1);
    Check.due("none", of(NO_WAY).pairings(), 0);
    Check.due("two", of(TWO_WAYS).pairings(), 2);
    Check.due("seven", of(BARE.repeat(7)).pairings(), 1);
    Check.due("seven who wouldn't", of(BARE.repeat(7) + "likes:0;").pairings(), 1);
    RingSign x = of(TWO_WAYS);
    x.mark(0, 3);
    Check.due("after a mark", x.pairings(), 1);
    x.undo(1);
    Check.due("after undoing", x.pairings(), 2);
    x.engage(0, 2);
    Check.due("whoever is with whom", x.pairings(), 2);
  }

  private static void partner() {
    RingSign x = of(TWO_WAYS);
    int[][] with = {{2, 3, 0, 1}, {3, 2, 1, 0}};
    for (int k = 0; k < 2; k++) for (int p = 0; p < 4; p++) Check.due("of " + k + ", " + p, x.partner(k, p), with[k][p]);
    RingSign seven = of(BARE.repeat(7));
    Check.due("the last but one", seven.partner(0, 5), 4);
    x.engage(0, 3);
    Check.due("whoever is with whom", x.partner(0, 0), 2);
  }

  private static void partnerNone() {
    RingSign x = of(BARE.repeat(3));
    Check.due("with nobody", x.partner(0, 2), -1);
    Check.due("with somebody", x.partner(0, 1), 0);
    for (int k : new int[] {1, 2, 231, 232, 233, 1000, Integer.MAX_VALUE}) Check.due("not so many: " + k, x.partner(k, 0), -1);
    Check.due("none holds", of(NO_WAY).partner(0, 0), -1);
    Check.due("two hold, not three", of(TWO_WAYS).partner(2, 0), -1);
  }

  private static void noPartner() {
    RingSign x = of(BARE + BARE);
    for (int p : NOT_TWO) {
      Check.due("partner(0, " + p + ")", x.partner(0, p), -2);
      Check.due("ahead of k: " + p, x.partner(-1, p), -2);
      Check.due("ahead of NONE: " + p, x.partner(99, p), -2);
    }
    for (int k : new int[] {-1, -2, Integer.MIN_VALUE}) Check.due("k " + k, x.partner(k, 0), -3);
    Check.due("k ahead of NONE", of(NO_WAY).partner(-1, 0), -3);
  }

  private static void can() {
    RingSign x = of(TWO_WAYS);
    int[] bits = {12, 12, 3, 3};
    for (int p = 0; p < 4; p++) Check.due("can(" + p + ")", x.can(p), bits[p]);
    RingSign seven = of(BARE.repeat(7));
    Check.due("0", seven.can(0), 2);
    Check.due("5", seven.can(5), 16);
    Check.due("with nobody", seven.can(6), 0);
    Check.due("none holds", of(NO_WAY).can(0), 0);
    Check.due("one", of(BARE).can(0), 0);
  }

  private static void noCan() {
    RingSign x = of(BARE + BARE);
    for (int p : NOT_TWO) Check.due("can(" + p + ")", x.can(p), -2);
    Check.due("no people", new RingSign().can(0), -2);
    Check.due("7 of seven", of(BARE.repeat(7)).can(7), -2);
  }

  private static void sure() {
    Check.due("no people", new RingSign().sure(), 0);
    Check.due("one, with nobody", of(BARE).sure(), 1);
    Check.due("two ways", of(TWO_WAYS).sure(), 0);
    Check.due("one way, six with somebody", of(BARE.repeat(7)).sure(), 127);
    // A fifth and a sixth, who like nobody, are sure to be with nobody.
    String six = "person 0 0 0 mark 3;person 0 0 0;person 7 7 7 mark 4;person 7 7 7 mark 5;person 0 0 0 mark 3;person 0 0 0 mark 2;"
        + "fits:cross=0;likes:(who-1)*(9-(whom-mark)*(whom-mark));";
    Check.due("0 and 1 are sure", of(six).sure(), 3);
  }

  private static void sureOfNone() {
    Check.due("none holds", of(NO_WAY).sure(), 7);
    String fourth = NO_WAY.replace(BY_MARK, BARE + "likes:(3-who)*(9-(whom-mark)*(whom-mark));");
    Check.due("none holds, of four", of(fourth).sure(), 15);
  }

  private static void most() {
    Check.due("no people", new RingSign().most(), 0);
    Check.due("one", of(BARE).most(), 0);
    for (int people = 2; people <= 7; people++) Check.due("of " + people, of(BARE.repeat(people)).most(), people / 2);
    Check.due("none match", of(BARE.repeat(7) + "likes:0;").most(), 0);
    Check.due("all match one alone", of(BARE + FULL.repeat(6) + "fits:cross=0;").most(), 1);
    Check.due("all match one of two", of(BARE + FULL.repeat(5) + BARE + "fits:cross=0;").most(), 2);
    Check.due("three of seven", of(BARE.repeat(3) + FULL.repeat(4) + "fits:cross=0;").most(), 3);
    // 1 and 3 don't match: if 0 were with 2, there would be one two alone.
    Check.due("not the first ones", of("person 0 0 0 mark 1;person 0 0 0;person 0 0 0 mark 1;person 0 0 0;likes:mark+theirs;").most(), 2);
    Check.due("whoever is with whom", of(BARE.repeat(4) + "engaged 0 3;").most(), 2);
  }

  private static void triangle() {
    Check.due("0 1 2", of(NO_WAY).triangle(), 12);
    Check.due("0 2 1", of("person 0 0 0 mark 2;person 0 0 0 mark 0;person 0 0 0 mark 1;" + BY_MARK).triangle(), 21);
    // Two of them, 0 1 2 and 3 4 5.
    String two = "person 0 0 0 mark 1;person 0 0 0 mark 2;person 0 0 0 mark 0;person 0 0 0 mark 4;person 0 0 0 mark 5;person 0 0 0 mark 3;";
    Check.due("the first of two", of(two + BY_MARK).triangle(), 12);
    RingSign x = of(two + BY_MARK);
    x.mark(0, 2);
    Check.due("the second then", x.triangle(), 345);
    x.undo(1);
    Check.due("the first again", x.triangle(), 12);
  }

  private static void noTriangle() {
    Check.due("no people", new RingSign().triangle(), -1);
    Check.due("two", of(BARE + BARE).triangle(), -1);
    Check.due("all like the same", of(BARE.repeat(7)).triangle(), -1);
    Check.due("none match", of(NO_WAY.replace("9-", "0-")).triangle(), -1);
  }
}
