import java.util.List;
import java.util.function.ToIntFunction;

/** The edges of rings, laws, deeds, pairings, blots, the game, chance, years, trays and images: the terms' sentences. */
public final class TermsEdgesTest {
  private static final String BARE = "person 0 0 0;";
  private static final String FULL = "person 7 7 7;";
  /** Each likes best whose number is its mark. */
  private static final String BY_MARK = "likes:9-(whom-mark)*(whom-mark);";
  private static final String TWO_WAYS = "person 7 7 7 mark 2;person 7 7 7 mark 3;person 0 0 0 mark 1;person 0 0 0 mark 0;fits:cross=0;" + BY_MARK;
  private static final String NO_WAY = "person 0 0 0 mark 1;person 0 0 0 mark 2;person 0 0 0 mark 0;" + BY_MARK;

  public static void main(String[] args) {
    Doc doc = Doc.part("A RING has five rows", "Refused calls answer");
    doc.says("A RING has five rows of five CELLS;", TermsEdgesTest::ring)
        .says("a SIGN lies in it at a SHIFT: 0 to 8: its first CELL in the row SHIFT by 3 and the column SHIFT modulo 3 of the RING.", TermsEdgesTest::shifts)
        .says("CROSSINGS of two SIGNS in it: CELLS of the RING in which both have INK.", TermsEdgesTest::crossings)
        .says("A MONOGRAM of a set of PEOPLE (4 at most): a SHIFT for each; its CROSSINGS: of each two of them, together;", TermsEdgesTest::monograms)
        .says("the least there can be, of like ones the first by SHIFTS, PERSON by PERSON.", TermsEdgesTest::firstMonogram)
        .says("A set of PEOPLE FITS, if it has 4 at most and the law fits holds:", TermsEdgesTest::fourFit)
        .says("cross: CROSSINGS of its MONOGRAM, ink: CELLS with INK of all its SIGNS together, many: how many they are", TermsEdgesTest::fitsNames)
        .says("(without one: CROSSINGS below 2).", TermsEdgesTest::withoutFits)
        .says("How much one LIKES another one: as the law likes tells: who, mark: its number and mark, whom, theirs: the other one's,"
            + " cross: CROSSINGS of the MONOGRAM of both, ink: CELLS with INK of the other one's SIGN", TermsEdgesTest::likesNames)
        .says("(without one: 1).", TermsEdgesTest::withoutLikes)
        .says("Above 0: it WOULD;", TermsEdgesTest::would)
        .says("of those it LIKES alike it LIKES the lesser number better.", TermsEdgesTest::alike)
        .says("Each + - * is kept from -1,000,000 to 1,000,000.", TermsEdgesTest::kept)
        .says("Two MATCH, if both WOULD and both together FIT.", TermsEdgesTest::match)
        .says("To get ENGAGED: two who MATCH, each of whom is with nobody or LIKES the other one better than whom it is with:", TermsEdgesTest::engaged)
        .says("who is left so is with nobody then.", TermsEdgesTest::left)
        .says("To PART: neither is with anybody.", TermsEdgesTest::part)
        .says("A STROKE: a CELL of a SIGN has INK, or has none any more.", TermsEdgesTest::stroke)
        .says("To have a MARK.", TermsEdgesTest::mark)
        .says("Why not: 1 no such PERSON, both one, CELL, MARK.", TermsEdgesTest::whyOne)
        .says("2 they are with each other already (ENGAGED), it is with nobody (PART).", TermsEdgesTest::whyTwo)
        .says("3 they don't MATCH.", TermsEdgesTest::whyThree)
        .says("4 one likes the one it is with better.", TermsEdgesTest::whyFour)
        .says("DEEDS in a TRAY: 0 to 99: PERSON v by 10 and PERSON v modulo 10 get ENGAGED;", () -> deeds(0, 99))
        .says("100 to 109: PERSON v - 100 PARTS;", TermsEdgesTest::partings)
        .says("200 to 299: a STROKE in the SIGN of PERSON (v - 200) by 10, CELL v modulo 10;", () -> deeds(200, 299))
        .says("300 to 399: PERSON (v - 300) by 10 has MARK v modulo 10;", () -> deeds(300, 399))
        .says("others: 1.", TermsEdgesTest::otherDeeds)
        .says("Calls that did some can be UNDONE", TermsEdgesTest::didSome)
        .says("each as a whole, the latest first,", TermsEdgesTest::asAWhole)
        .says("10 at most (eldest are forgotten):", TermsEdgesTest::tenAtMost)
        .says("who is with whom, SIGNS, MARKS.", TermsEdgesTest::whatIsUndone);
    pairingsAndMore(doc);
    doc.end();
    Check.end();
  }

  private static void pairingsAndMore(Doc doc) {
    doc.says("A PAIRING: each PERSON with one other one or with nobody.", TermsEdgesTest::pairing)
        .says("Two BREAK it, if they MATCH, aren't with each other and each is with nobody or LIKES the other one better.", TermsEdgesTest::breaking)
        .says("It HOLDS, if all who are with each other MATCH and no two BREAK it.", TermsEdgesTest::holding)
        .says("(There may be none.)", TermsEdgesTest::noneHolds)
        .says("PAIRINGS are in order: first by whom PERSON 0 is with (nobody first, then by number), then PERSON 1, and so on.", TermsEdgesTest::order)
        .says("A TRIANGLE: three (a, b, c) so that all MATCH each other, a LIKES b better than c, b LIKES c better than a, c LIKES a better than b;", TermsEdgesTest::triangle)
        .says("a is the least of the three.", TermsEdgesTest::leastFirst)
        .says("A CHANGE: STROKES in the SIGN of one PERSON so that it and another one FIT: the fewest CELLS,", TermsEdgesTest::fewestCells)
        .says("of like ones the least SIGN (as bits: CELL 0 the lowest).", TermsEdgesTest::leastSign)
        .says("A BLOT in a TRAY (1 to 18 numbers): 2 times a CELL, and 1 if there is INK, else 0: PEOPLE whose SIGNS are so;", TermsEdgesTest::blot)
        .says("by odds told.", TermsEdgesTest::odds)
        .says("ANSWERS in a TRAY (as many numbers as PEOPLE: with whom each is, or NONE; if one is with another one, that one is with it):", TermsEdgesTest::answers)
        .says("MARKS 0 to 9 of a PERSON by which this PAIRING HOLDS.", TermsEdgesTest::marks)
        .says("THE GAME: a set of PEOPLE in a RING; by turns one more is added so that the set FITS;", TermsEdgesTest::game)
        .says("who can add none loses.", TermsEdgesTest::loses)
        .says("CHANCE: each stays at home as likely as told, each by itself;", TermsEdgesTest::atHome)
        .says("those who don't are in the first PAIRING of them that HOLDS (among them alone;", TermsEdgesTest::amongThem)
        .says("if there is none, nobody is with anybody).", TermsEdgesTest::amongThemNone)
        .says("A YEAR by a SEED (x, an int; a DRAW: x becomes 1103515245 x + 12345, it is x >>> 16):", TermsEdgesTest::draws)
        .says("so many times (1 to 40):", TermsEdgesTest::times)
        .says("DRAW modulo 6: 0 to 2 PERSON DRAW modulo 7 and PERSON DRAW modulo 7 get ENGAGED; 3 PERSON DRAW modulo 7 PARTS;"
            + " 4 a STROKE in the SIGN of PERSON DRAW modulo 7, CELL DRAW modulo 9; 5 PERSON DRAW modulo 7 has MARK DRAW modulo 10;", TermsEdgesTest::kindsOfDraws)
        .says("as in a TRAY, if it can be.", TermsEdgesTest::ifItCanBe)
        .says("TRAYS 0 to 3 are MISSING at first,", TermsEdgesTest::missing)
        .says("or have 0 to 40 numbers", TermsEdgesTest::forty)
        .says("of 8 bits (sort 0), 16 (1), 32 (2), 64 (3).", TermsEdgesTest::sorts)
        .says("IMAGES 0 to 1: THE SOCIETY and what a call could bring back by UNDOING;", TermsEdgesTest::images)
        .says("nothing can be UNDONE behind", TermsEdgesTest::nothingBehind)
        .says("(none at first).", TermsEdgesTest::noImages);
  }

  private static RingSign of(String lines) { return Check.of("society;" + lines); }

  private static void shiftsOf(RingSign x, int set, int crossings, int... shifts) {
    Check.due("crossings of " + set, x.monogram(set, 0), crossings);
    int at = 0;
    for (int p = 0; p < 7; p++) if ((set >> p & 1) == 1) Check.due("shift of " + p, x.monogram(set, 10 + p), shifts[at++]);
  }

  // ---- rings

  private static void ring() {
    // With four rows or columns two full ones would cross in two cells, with six in none.
    shiftsOf(of(FULL + FULL), 3, 1, 0, 8);
    // Columns and rows end: what lies in the last column has nothing in the first one of the next row.
    shiftsOf(of("person 7 7 7;person 1 1 1;"), 3, 0, 0, 1);
    shiftsOf(of("person 7 7 7;person 4 4 4;"), 3, 0, 1, 0);
    shiftsOf(of("person 7 7 7;person 0 0 7;"), 3, 0, 0, 3);
    shiftsOf(of("person 7 7 7;person 7 0 0;"), 3, 0, 3, 0);
    // Two rows of three: above one another, or three rows and two columns beside one another.
    shiftsOf(of("person 7 7 0;person 7 7 0;"), 3, 0, 0, 6);
    shiftsOf(of("person 6 6 6;person 6 6 6;"), 3, 0, 0, 2);
  }

  private static void shifts() {
    // One cell, against one whose first s cells have ink, lies at the first shift that is free.
    for (int s = 0; s <= 8; s++) shiftsOf(of(Check.person((1 << s) - 1, "") + "person 4 0 0;"), 3, 0, 0, s);
    shiftsOf(of(FULL + "person 4 0 0;"), 3, 0, 1, 0);
  }

  private static void crossings() {
    Check.due("two bare ones", of(BARE + BARE).crosses(0, 1), 0);
    Check.due("a bare one and a full one", of(BARE + FULL).crosses(0, 1), 0);
    Check.due("two full ones", of(FULL + FULL).crosses(0, 1), 1);
    // One less corner on either side, and they don't cross any more.
    for (int c : new int[] {0, 2, 6, 8}) Check.due("without corner " + c, of(FULL + Check.person(511 - (1 << c), "")).crosses(0, 1), 0);
    for (int c : new int[] {1, 3, 4, 5, 7}) Check.due("without cell " + c, of(FULL + Check.person(511 - (1 << c), "")).crosses(0, 1), 1);
  }

  private static void monograms() {
    RingSign x = of(FULL.repeat(5));
    shiftsOf(x, 1, 0, 0);
    shiftsOf(x, 16, 0, 0);
    shiftsOf(x, 3, 1, 0, 8);
    // 3 and 3 beside and below the first, and the middle cell once more: it counts for each two.
    shiftsOf(x, 7, 7, 0, 2, 6);
    shiftsOf(x, 30, 14, 0, 2, 6, 8);
    Check.due("five have none", x.monogram(31, 0), -3);
    Check.due("nobody has none", x.monogram(0, 0), -3);
  }

  private static void firstMonogram() {
    shiftsOf(of(BARE.repeat(4)), 15, 0, 0, 0, 0, 0);
    shiftsOf(of("person 4 0 0;".repeat(4)), 15, 0, 0, 1, 2, 3);
    shiftsOf(of(FULL + BARE + FULL), 7, 1, 0, 0, 8);
    shiftsOf(of(BARE + FULL + FULL), 7, 1, 0, 0, 8);
    // Fewer crossings go ahead of lesser shifts: the one cell is free in a corner between two full ones alone.
    shiftsOf(of(FULL + FULL + "person 4 0 0;"), 7, 1, 2, 6, 0);
    Check.due("a shift asked of first", of(FULL + FULL).monogram(3, 11), 8);
    // Two cells with one between them are never free there: so the first lies first again.
    shiftsOf(of(FULL + FULL + "person 5 0 0;"), 7, 2, 0, 8, 1);
  }

  private static void fourFit() {
    RingSign x = of(BARE.repeat(7) + "fits:1=1;");
    Check.due("one", x.fits(64), 1);
    Check.due("four", x.fits(15), 1);
    Check.due("four", x.fits(120), 1);
    Check.due("five", x.fits(31), 0);
    Check.due("seven", x.fits(127), 0);
    Check.due("the law doesn't hold", of(BARE + "fits:1=2;").fits(1), 0);
    Check.due("five without a law", of(BARE.repeat(5)).fits(31), 0);
  }

  private static void fitsNames() {
    Check.due("one: no crossings, 9 cells", of(FULL + "fits:cross=0 and ink=9 and many=1;").fits(1), 1);
    Check.due("four: 14 crossings, 36 cells", of(FULL.repeat(4) + "fits:cross=14 and ink=36 and many=4;").fits(15), 1);
    Check.due("three of them", of(FULL.repeat(4) + "fits:cross=7 and ink=27 and many=3;").fits(13), 1);
    Check.due("bare ones", of(BARE.repeat(4) + "fits:cross=0 and ink=0 and many=4;").fits(15), 1);
    // Cells that lie on one another count for each sign.
    Check.due("like signs", of("person 4 0 0;".repeat(2) + "fits:ink=2;").fits(3), 1);
  }

  private static void withoutFits() {
    Check.due("0", of(FULL + BARE).fits(3), 1);
    Check.due("1", of(FULL + FULL).fits(3), 1);
    Check.due("1, of three", of(FULL + FULL + "person 4 0 0;").fits(7), 1);
    Check.due("2, of three", of(FULL + FULL + "person 5 0 0;").fits(7), 0);
    Check.due("7", of(FULL + FULL + FULL).fits(7), 0);
    Check.due("a law from another text is gone", again("fits:1=2;", "").fits(3), 1);
    Check.due("a law from another text is gone", again("likes:5;fits:1=2;", "").fits(3), 1);
    RingSign three = of(FULL.repeat(3) + "likes:5;fits:1=1;");
    Check.due("by the law", three.fits(7), 1);
    Check.tell(three, "society;" + FULL.repeat(3));
    Check.due("without it", three.fits(7), 0);
    Check.due("another law", again("fits:not 1=2;", "fits:1=1;").fits(3), 1);
    Check.due("another law", again("fits:1=1;", "fits:1=2;").fits(1), 0);
    Check.due("another law", again("fits:1=1;", "fits:many=1;").fits(3), 0);
  }

  /** A society of two bare ones with a law, and then another one. */
  private static RingSign again(String law, String next) {
    RingSign x = of(BARE + BARE + law);
    for (int set = 1; set <= 3; set++) x.fits(set);
    Check.all(x);
    Check.that("told again", Check.tell(x, "society;" + BARE + BARE + next) > 0);
    return x;
  }

  // ---- laws

  private static void likesNames() {
    String people = "person 7 7 7 mark 2;person 1 1 1 mark 0;person 7 7 7 mark 9;person 7 7 6 mark 4;";
    RingSign x = of(people + "likes:who*100+mark*10+whom;");
    Check.due("2 likes 0", x.likes(2, 0), 290);
    Check.due("0 likes 2", x.likes(0, 2), 22);
    Check.due("1 likes 3", x.likes(1, 3), 103);
    RingSign y = of(people + "likes:theirs*100+cross*10+ink;");
    Check.due("2 likes 0", y.likes(2, 0), 219);
    Check.due("0 likes 2", y.likes(0, 2), 919);
    Check.due("2 likes 3", y.likes(2, 3), 408);
    Check.due("3 likes 2", y.likes(3, 2), 909);
    Check.due("0 likes 1", y.likes(0, 1), 3);
  }

  private static void withoutLikes() {
    RingSign x = of(BARE + FULL + FULL);
    for (int p = 0; p < 3; p++) for (int q = 0; q < 3; q++) if (p != q) Check.due(p + " likes " + q, x.likes(p, q), 1);
    Check.due("so they match", x.person(0, 6), 6);
    Check.due("a law from another text is gone", again("likes:0;", "").likes(0, 1), 1);
    Check.due("a law from another text is gone", again("fits:1=1;likes:0;", "").likes(0, 1), 1);
    Check.due("another law", again("likes:2*3*4;", "likes:5+6;").likes(1, 0), 11);
  }

  private static void would() {
    // How much each likes the other: its mark less 5.
    for (int m = 0; m <= 9; m++) {
      RingSign x = of("person 0 0 0 mark " + m + ";person 0 0 0 mark 9;likes:mark-5;");
      Check.due("by " + (m - 5), x.person(0, 6), m > 5 ? 2 : 0);
      Check.due("by " + (m - 5), x.engage(1, 0), m > 5 ? 0 : -13);
    }
    Check.due("by the most below", of(BARE + BARE + "likes:0-999*999*999;").person(0, 6), 0);
    Check.due("by the most above", of(BARE + BARE + "likes:999*999*999;").person(0, 6), 2);
  }

  private static void alike() {
    RingSign x = of(BARE.repeat(4));
    x.engage(2, 3);
    Check.due("3 leaves 2 for 1", x.engage(1, 3), 1);
    Check.due("3 doesn't leave 1 for 2", x.engage(2, 3), -14);
    Check.due("3 leaves 1 for 0", x.engage(3, 0), 1);
    Check.due("0 leaves 3 for 1", x.engage(0, 1), 1);
    Check.due("0 doesn't leave 1 for 2", x.engage(0, 2), -14);
    Check.due("so one pairing holds", x.pairings(), 1);
    // A little less liked, and the lesser number is of no use.
    RingSign y = of(BARE.repeat(3) + "likes:1+whom;");
    y.engage(0, 2);
    Check.due("0 likes 2 better", y.engage(0, 1), -14);
    Check.due("2 likes 1 better", y.engage(2, 1), 1);
  }

  private static void kept() {
    String[][] laws = {
        {"999*999+999+999+1", "1000000"}, {"999*999+999+999+1+1", "1000000"}, {"999*999+999+999+1+1-1", "999999"},
        {"999*999+999+999", "999999"}, {"(999+1)*(999+1)", "1000000"}, {"(999+1)*(999+1)*(999+1)", "1000000"},
        {"(999+2)*(999+1)", "1000000"}, {"(999+2)*(999+1)-1", "999999"}, {"(999*999*999)*(999*999*999)", "1000000"},
        {"0-999*999-999-999-1", "-1000000"}, {"0-999*999-999-999-2", "-1000000"}, {"0-999*999-999-999-2+1", "-999999"},
        {"(0-999)*999-999-999", "-999999"}, {"(0-999-1)*(999+1)", "-1000000"}, {"(0-999-2)*(999+1)", "-1000000"},
        {"(0-999-2)*(999+1)+1", "-999999"}, {"(0-999*999*999)*(0-999*999*999)", "1000000"},
        {"(0-999*999*999)*(999*999*999)", "-1000000"}, {"999*999*999+999*999*999", "1000000"},
        {"0-999*999*999-999*999*999", "-1000000"}, {"999*999*999-(0-999*999*999)", "1000000"}, {"999*999*999-999*999*999", "0"}};
    for (String[] law : laws) {
      Check.due("likes: " + law[0], of(BARE + BARE + "likes:" + law[0] + ";").likes(0, 1), Integer.parseInt(law[1]));
      String same = law[1].startsWith("-") ? "0-(" + parts(law[1].substring(1)) + ")" : parts(law[1]);
      Check.due("fits: " + law[0], of(BARE + "fits:" + law[0] + "=" + same + ";").fits(1), 1);
    }
  }

  /** A number of up to seven digits, told in a law without passing the bounds. */
  private static String parts(String number) {
    int v = Integer.parseInt(number);
    return "(" + v / 1000 / 2 + "*1" + "+" + (v / 1000 - v / 1000 / 2) + ")*(999+1)+" + v % 1000;
  }

  private static void match() {
    for (int bits = 0; bits < 8; bits++) {
      RingSign x = of("person 0 0 0 mark " + (bits & 1) + ";person 0 0 0 mark " + (bits >> 1 & 1) + ";likes:mark;fits:1=" + (2 - (bits >> 2)) + ";");
      int want = bits == 7 ? 1 : 0;
      Check.due("0 matches by " + bits, x.person(0, 6), want * 2);
      Check.due("1 matches by " + bits, x.person(1, 6), want);
      Check.due("engage by " + bits, x.engage(0, 1), want == 1 ? 0 : -13);
      Check.due("most by " + bits, x.most(), want);
    }
    // Both together fit: that one alone doesn't is of no use.
    Check.due("each alone doesn't fit", of(BARE + BARE + "fits:many=2;").person(0, 6), 2);
    Check.due("each alone does", of(BARE + BARE + "fits:many=1;").person(0, 6), 0);
    Check.due("nobody matches itself", of(BARE.repeat(7)).person(3, 6), 127 - 8);
  }

  // ---- deeds

  private static void engaged() {
    // Each likes 0 best and 6 least.
    RingSign x = of(BARE.repeat(7) + "likes:9-whom;");
    Check.due("both with nobody", x.engage(5, 6), 0);
    Check.due("one with nobody, one likes better", x.engage(6, 4), 1);
    Check.due("one with nobody, one doesn't", x.engage(5, 6), -14);
    Check.due("both with nobody", x.engage(3, 5), 0);
    Check.due("both like better", x.engage(4, 3), 2);
    Check.due("the first likes less", x.engage(3, 5), -14);
    Check.due("the second likes less", x.engage(5, 3), -14);
    Check.due("both with nobody", x.engage(5, 6), 0);
    Check.due("both like less", x.engage(3, 5), -14);
    // They don't match, though both are with nobody.
    Check.due("no match", of(BARE + BARE + "likes:whom;").engage(0, 1), -13);
    // Whom one is with by the text it may like by less than 0: any match is better then.
    RingSign y = of(BARE.repeat(3) + "engaged 0 1;likes:whom+who-1;");
    Check.due("0 likes 1 by 0", y.likes(0, 1), 0);
    Check.due("0 leaves 1 for 2", y.engage(0, 2), 1);
  }

  private static void left() {
    RingSign x = of(BARE.repeat(4) + "engaged 0 2;engaged 1 3;");
    Check.due("two are left", x.engage(0, 1), 2);
    Check.due("2 is with nobody", x.person(2, 5), -1);
    Check.due("3 is with nobody", x.person(3, 5), -1);
    Check.due("0 is with 1", x.person(0, 5), 1);
    Check.due("1 is with 0", x.person(1, 5), 0);
    Check.due("those two may be with each other", x.engage(2, 3), 0);
  }

  private static void part() {
    for (int p : new int[] {0, 6}) {
      RingSign x = of(BARE.repeat(7) + "engaged 0 6;engaged 1 2;");
      Check.due("from whom", x.part(p), 6 - p);
      Check.due("0 is with nobody", x.person(0, 5), -1);
      Check.due("6 is with nobody", x.person(6, 5), -1);
      Check.due("the others stay", x.count(1), 6);
    }
  }

  private static void stroke() {
    RingSign x = of("person 5 2 5;");
    int sign = 1 + 4 + 16 + 64 + 256;
    for (int c = 0; c < 9; c++) {
      sign ^= 1 << c;
      Check.due("cell " + c, x.stroke(0, c), sign >> c & 1);
      Check.due("sign", x.person(0, 0), sign);
    }
    for (int c = 0; c < 9; c++) x.stroke(0, c);
    Check.due("twice is as it was", x.person(0, 0), 1 + 4 + 16 + 64 + 256);
  }

  private static void mark() {
    RingSign x = of("person 0 0 0 mark 5;person 0 0 0 mark 6;");
    int was = 5;
    for (int n = 0; n <= 9; n++) {
      Check.due("what it was", x.mark(0, n), was);
      Check.due("its mark", x.person(0, 2), n);
      was = n;
    }
    Check.due("the other one's", x.person(1, 2), 6);
  }

  private static void whyOne() {
    RingSign x = of(BARE + BARE);
    int[] none = {2, 6, 7, 9, -1, Integer.MIN_VALUE, Integer.MAX_VALUE};
    for (int p : none) {
      Check.due("no such one: " + p, x.engage(p, 0), -11);
      Check.due("no such one: " + p, x.engage(0, p), -11);
      Check.due("no such one: " + p, x.part(p), -11);
      Check.due("no such one: " + p, x.stroke(p, 0), -11);
      Check.due("no such one: " + p, x.mark(p, 0), -11);
    }
    Check.due("both one", x.engage(0, 0), -11);
    Check.due("both one", x.engage(1, 1), -11);
    Check.due("both one who isn't", x.engage(2, 2), -11);
    for (int c : new int[] {9, -1, 32, Integer.MIN_VALUE, Integer.MAX_VALUE}) Check.due("no cell " + c, x.stroke(0, c), -11);
    for (int n : new int[] {10, -1, 256, Integer.MIN_VALUE, Integer.MAX_VALUE}) Check.due("no mark " + n, x.mark(0, n), -11);
    Check.due("nothing changed", x.count(3), 0);
  }

  private static void whyTwo() {
    RingSign x = of(BARE.repeat(3) + "engaged 0 1;");
    Check.due("with each other", x.engage(0, 1), -12);
    Check.due("with each other", x.engage(1, 0), -12);
    Check.due("with nobody", x.part(2), -12);
    // With each other though they don't match: 2 is told ahead of 3.
    RingSign y = of(BARE + BARE + "engaged 0 1;likes:0;");
    Check.due("2 ahead of 3", y.engage(0, 1), -12);
    y.part(0);
    Check.due("then 3", y.engage(0, 1), -13);
    Check.due("no more", y.part(1), -12);
  }

  private static void whyThree() {
    Check.due("the first wouldn't", of(BARE + BARE + "likes:who;").engage(0, 1), -13);
    Check.due("the second wouldn't", of(BARE + BARE + "likes:whom;").engage(0, 1), -13);
    Check.due("they don't fit", of(BARE + BARE + "fits:1=2;").engage(0, 1), -13);
    // 0 likes 1 better than 2, and doesn't match 2: 3 is told ahead of 4.
    Check.due("3 ahead of 4", of(BARE.repeat(3) + "engaged 0 1;likes:2-whom;").engage(0, 2), -13);
    Check.due("then 4", of(BARE.repeat(3) + "engaged 0 1;likes:3-whom;").engage(0, 2), -14);
  }

  private static void whyFour() {
    RingSign x = of(BARE.repeat(4) + "engaged 0 1;likes:9-whom;");
    Check.due("the first one does", x.engage(0, 2), -14);
    Check.due("the second one does", x.engage(2, 0), -14);
    Check.due("the other one of the two", x.engage(1, 3), -14);
    x.engage(2, 3);
    Check.due("both do", x.engage(0, 2), -14);
    Check.due("one does, one is with a worse one", x.engage(1, 2), -14);
  }

  /** Why a deed can't be among people who are all bare and with nobody, by the document's words. */
  private static int why(int people, long v) {
    if (v >= 0 && v <= 99) return v / 10 >= people || v % 10 >= people || v / 10 == v % 10 ? 1 : 0;
    if (v >= 100 && v <= 109) return v - 100 >= people ? 1 : 2;
    if (v >= 200 && v <= 299) return (v - 200) / 10 >= people || v % 10 > 8 ? 1 : 0;
    if (v >= 300 && v <= 399) return (v - 300) / 10 >= people ? 1 : 0;
    return 1;
  }

  private static void deeds(int from, int to) {
    for (int people : new int[] {0, 1, 4, 7}) {
      for (int v = from; v <= to; v++) {
        RingSign x = of(BARE.repeat(people));
        Check.tray(x, 0, 1 + v % 3, v);
        int why = why(people, v);
        Check.due("why of " + v + " among " + people, x.judge(0, 1), why);
        Check.due("place of " + v, x.judge(0, 0), why == 0 ? -1 : 0);
        Check.due("done of " + v, x.perform(0), why == 0 ? 1 : 0);
        int p = v % 100 / 10;
        int low = v % 10;
        Check.due("with somebody by " + v, x.count(1), why == 0 && v <= 99 ? 1 << p | 1 << low : 0);
        Check.due("ink by " + v, x.count(3), why == 0 && v >= 200 && v <= 299 ? 1 : 0);
        if (why == 0 && v >= 200 && v <= 299) Check.due("sign by " + v, x.person(p, 0), 1 << low);
        if (why == 0 && v >= 300) Check.due("mark by " + v, x.person(p, 2), low);
      }
    }
  }

  private static void partings() {
    deeds(100, 109);
    for (int p = 0; p < 10; p++) {
      RingSign x = of(BARE.repeat(7) + "engaged 0 6;engaged 5 1;engaged 2 4;");
      Check.tray(x, 3, 2, 100 + p);
      Check.due("why of " + (100 + p), x.judge(3, 1), p > 6 ? 1 : p == 3 ? 2 : 0);
      Check.due("done", x.perform(3), p > 6 || p == 3 ? 0 : 1);
      Check.due("twos then", x.count(2), p > 6 || p == 3 ? 3 : 2);
      if (p < 7) Check.due("with whom", x.person(p, 5), -1);
    }
  }

  private static void otherDeeds() {
    deeds(110, 199);
    deeds(400, 520);
    long[] others = {-1, -2, -100, -200, -300, 110, 199, 400, 999, 1000, 65536, 1L << 31, 1L << 32, (1L << 32) + 1, (1L << 32) + 200,
        -(1L << 32) + 1, Long.MIN_VALUE, Long.MIN_VALUE + 1, Long.MAX_VALUE};
    RingSign x = of(BARE.repeat(7));
    for (long v : others) {
      Check.tray(x, 0, 3, v);
      Check.due("why of " + v, x.judge(0, 1), 1);
      Check.due("done of " + v, x.perform(0), 0);
    }
    // In 8 bits 200 and 300 are others: -56, and 44, which is a deed of two.
    Check.tray(x, 0, 0, 200);
    Check.due("200 in 8 bits", x.judge(0, 1), 1);
    Check.tray(x, 0, 0, 300);
    Check.due("300 in 8 bits: both one", x.judge(0, 1), 1);
    Check.tray(x, 0, 0, 256 + 45);
    Check.due("301 in 8 bits: 4 and 5", x.judge(0, 1), 0);
    Check.due("nothing was done", x.count(5), 0);
  }

  private static void didSome() {
    RingSign x = of(BARE.repeat(3) + "engaged 0 1;");
    x.engage(0, 1);
    x.part(2);
    x.stroke(0, 9);
    x.mark(0, 10);
    Check.tray(x, 0, 1, 400);
    x.perform(0);
    Check.tray(x, 1, 1);
    x.perform(1);
    x.judge(0, 0);
    Check.due("none did any", x.count(5), 0);
    x.part(0);
    Check.due("part", x.count(5), 1);
    x.engage(0, 2);
    Check.due("engage", x.count(5), 2);
    x.stroke(0, 8);
    Check.due("stroke", x.count(5), 3);
    x.mark(0, 9);
    Check.due("mark", x.count(5), 4);
    Check.tray(x, 0, 1, 399, 1);
    x.perform(0);
    Check.due("perform that could not", x.count(5), 4);
    Check.tray(x, 0, 1, 200, 400);
    x.perform(0);
    Check.due("perform", x.count(5), 5);
    RingSign y = of(BARE.repeat(7));
    // A year of one deed can be undone just if that one could be.
    int did = 0;
    for (int seed = 0; seed < 20; seed++) {
      int could = y.year(seed, 1);
      did = Math.min(10, did + could);
      Check.due("year " + seed, y.count(5), did);
    }
  }

  private static void asAWhole() {
    RingSign x = of(BARE.repeat(4));
    Check.tray(x, 0, 1, 1, 23, 200, 208, 305, 100, 2);
    x.stroke(3, 3);
    Check.due("seven deeds", x.perform(0), 7);
    x.mark(3, 3);
    Check.due("three calls", x.count(5), 3);
    Check.due("the latest first", x.undo(1), 2);
    Check.due("its mark", x.person(3, 2), 0);
    Check.due("the tray is still done", x.person(0, 2), 5);
    Check.due("as a whole", x.undo(1), 1);
    Check.due("mark", x.person(0, 2), 0);
    Check.due("sign", x.person(0, 0), 0);
    Check.due("nobody", x.count(1), 0);
    Check.due("the first is still done", x.person(3, 0), 8);
    Check.due("the first", x.undo(1), 0);
    Check.due("sign", x.person(3, 0), 0);
    List<ToIntFunction<RingSign>> kinds = List.of(y -> y.engage(0, 1), y -> y.part(2), y -> y.stroke(3, 3), y -> y.mark(3, 3), y -> y.perform(0), y -> y.year(3, 40));
    for (int i = 0; i < kinds.size(); i++) eachKind("call " + i, kinds.get(i));
  }

  /** A call behind others of all kinds: when it is undone, all is as it was just ahead of it. */
  private static void eachKind(String name, ToIntFunction<RingSign> call) {
    RingSign x = of(BARE.repeat(5) + "engaged 0 2;");
    x.stroke(0, 8);
    x.mark(3, 1);
    x.engage(1, 3);
    Check.tray(x, 0, 1, 102, 1, 233, 333);
    String before = Check.all(x);
    Check.that(name + " is done", call.applyAsInt(x) >= 0);
    Check.due(name + " can be undone", x.count(5), 4);
    Check.that(name + " changed some", !before.equals(Check.all(x)));
    Check.due(name + " is undone", x.undo(1), 3);
    Check.that(name + ": all as it was", before.equals(Check.all(x)));
  }

  private static void tenAtMost() {
    RingSign x = of("person 0 0 0;");
    for (int i = 1; i <= 25; i++) {
      x.mark(0, i % 10);
      Check.due("after " + i, x.count(5), Math.min(i, 10));
    }
    Check.due("eleven can't be", x.undo(11), -3);
    Check.due("ten can", x.undo(10), 0);
    // The first fifteen are forgotten: it has the fifteenth mark.
    Check.due("the mark", x.person(0, 2), 5);
    Check.due("no more", x.undo(1), -3);
    for (int i = 0; i < 9; i++) x.stroke(0, i);
    Check.due("nine", x.count(5), 9);
    Check.due("ten of nine", x.undo(10), -3);
    Check.due("nine of nine", x.undo(9), 0);
    Check.due("bare", x.person(0, 0), 0);
  }

  private static void whatIsUndone() {
    RingSign x = of("person 1 0 0 mark 4 shy 2 odds 3;person 0 0 1;person 0 2 0;engaged 0 1;likes:mark+theirs+9-whom;");
    x.part(1);
    x.stroke(2, 0);
    x.stroke(0, 8);
    x.mark(0, 9);
    x.mark(2, 1);
    x.engage(1, 2);
    Check.due("1 leaves 2", x.engage(0, 1), 1);
    x.image(0);
    Check.tray(x, 2, 0, 1);
    x.feed(0x20202020, 0x20202020, 0x20202020, 0x20202020, 0x20202020);
    Check.due("undone", x.undo(7), 0);
    Check.due("the tape is not", x.count(6), 20);
    Check.due("trays are not", x.blot(2), 0);
    x.society(0);
    Check.due("the fault is not", x.fault(0), 2);
    RingSign y = of("person 1 0 0 mark 4 shy 2 odds 3;person 0 0 1;person 0 2 0;engaged 0 1;likes:mark+theirs+9-whom;");
    for (int p = 0; p < 3; p++) {
      for (int what = 0; what <= 6; what++) Check.due("person(" + p + ", " + what + ")", x.person(p, what), y.person(p, what));
    }
    Check.due("images are not", x.restore(0), 0);
    Check.due("the mark in it", x.person(0, 2), 9);
  }

  // ---- what holds

  private static void pairing() {
    // With nobody, all of them; and three twos with one left over.
    RingSign x = of(BARE.repeat(7) + "likes:0;");
    for (int p = 0; p < 7; p++) Check.due("with nobody", x.partner(0, p), -1);
    RingSign y = of(BARE.repeat(7));
    int[] with = {1, 0, 3, 2, 5, 4, -1};
    for (int p = 0; p < 7; p++) Check.due("with whom " + p + " is", y.partner(0, p), with[p]);
    for (int p = 0; p < 6; p += 2) y.engage(p, p + 1);
    Check.due("three twos", y.count(2), 3);
    Check.due("six people", y.count(1), 63);
  }

  private static void breaking() {
    RingSign x = of(BARE + BARE);
    Check.due("both with nobody", x.breaking(), 1);
    x.engage(0, 1);
    Check.due("with each other", x.breaking(), -1);
    Check.due("they don't match", of(BARE + BARE + "likes:0;").breaking(), -1);
    Check.due("they don't match, the others do", of(FULL + FULL + BARE + "fits:cross=0;engaged 0 2;").breaking(), -1);
    // 0 is with 2, whom it likes as well as 1, but 1 is the lesser number.
    Check.due("one likes better, one is with nobody", of(BARE.repeat(3) + "engaged 0 2;").breaking(), 1);
    Check.due("the same from behind", of(BARE.repeat(3) + "engaged 0 2;").breaks(), 1);
    Check.due("one is with a better one", of(BARE.repeat(3) + "engaged 0 1;").breaks(), 0);
    Check.due("both like better", of(BARE.repeat(4) + "engaged 0 2;engaged 1 3;").breaking(), 1);
    Check.due("one does, one doesn't", of(BARE.repeat(4) + "engaged 0 1;engaged 2 3;").breaks(), 0);
    // By 9 - whom 1 would leave 2 for 0, and 3 would leave nobody for anybody; 0 is with 3.
    Check.due("0 leaves 3 for 1, 1 leaves 2 for 0", of(BARE.repeat(4) + "engaged 0 3;engaged 1 2;").breaking(), 1);
    Check.due("the least of liked alike is better, by one", of(BARE.repeat(3) + "engaged 0 1;likes:1+whom;").breaking(), 2);
  }

  private static void holding() {
    Check.due("nobody at all", new RingSign().holds(), 1);
    Check.due("two who match", of(BARE + BARE + "engaged 0 1;").holds(), 1);
    Check.due("two who match, apart", of(BARE + BARE).holds(), 0);
    Check.due("two who don't match", of(BARE + BARE + "engaged 0 1;likes:0;").holds(), 0);
    Check.due("two who don't match, apart", of(BARE + BARE + "likes:0;").holds(), 1);
    Check.due("one likes the other one, not the other way round", of(BARE + BARE + "engaged 0 1;likes:who;").holds(), 0);
    Check.due("two who match and two who don't fit", of(BARE + BARE + FULL + FULL + "engaged 0 1;engaged 2 3;fits:cross=0;").holds(), 0);
    Check.due("two break it", of(BARE.repeat(4) + "engaged 0 1;").holds(), 0);
    Check.due("none do", of(BARE.repeat(4) + "engaged 0 1;engaged 3 2;").holds(), 1);
  }

  private static void noneHolds() {
    RingSign x = of(NO_WAY);
    Check.due("pairings", x.pairings(), 0);
    Check.due("partner", x.partner(0, 0), -1);
    Check.due("can", x.can(1), 0);
    Check.due("all are sure", x.sure(), 7);
    for (int p = 0; p < 3; p++) {
      x.engage(p, (p + 1) % 3);
      Check.due("doesn't hold", x.holds(), 0);
      Check.due("one two breaks it", x.breaks(), 1);
    }
    String fourth = NO_WAY.replace(BY_MARK, BARE + "likes:(3-who)*(9-(whom-mark)*(whom-mark));");
    Check.due("a fourth, who likes nobody, is of no use", of(fourth).pairings(), 0);
    // 3 likes 0 and then 1, who likes it better than 0: so 1 comes to rest with 3, and 0 with 2.
    RingSign rest = of(NO_WAY.replace(BY_MARK, "person 0 0 0 mark 0;" + BY_MARK));
    Check.due("a fourth, whom 1 likes, is of use", rest.pairings(), 1);
    Check.due("1 with 3", rest.partner(0, 1), 3);
    Check.due("0 with 2", rest.partner(0, 0), 2);
  }

  private static void order() {
    RingSign x = of(TWO_WAYS);
    Check.due("two", x.pairings(), 2);
    int[][] with = {{2, 3, 0, 1}, {3, 2, 1, 0}};
    for (int k = 0; k < 2; k++) for (int p = 0; p < 4; p++) Check.due("of " + k + ", " + p, x.partner(k, p), with[k][p]);
    // 0 and 1 are with nobody in both, so 2 tells the order: 4 ahead of 5.
    RingSign y = of("person 0 0 0 mark 3;person 0 0 0;person 7 7 7 mark 4;person 7 7 7 mark 5;person 0 0 0 mark 3;person 0 0 0 mark 2;"
        + "fits:cross=0;likes:(who-1)*(9-(whom-mark)*(whom-mark));");
    Check.due("two", y.pairings(), 2);
    int[][] later = {{-1, -1, 4, 5, 2, 3}, {-1, -1, 5, 4, 3, 2}};
    for (int k = 0; k < 2; k++) for (int p = 0; p < 6; p++) Check.due("of " + k + ", " + p, y.partner(k, p), later[k][p]);
    // Told the other way round, the order is still by number.
    RingSign z = of("person 7 7 7 mark 3;person 7 7 7 mark 2;person 0 0 0 mark 0;person 0 0 0 mark 1;fits:cross=0;" + BY_MARK);
    for (int k = 0; k < 2; k++) for (int p = 0; p < 4; p++) Check.due("of " + k + ", " + p, z.partner(k, p), with[k][p]);
  }

  private static void triangle() {
    Check.due("forwards", of(NO_WAY).triangle(), 12);
    Check.due("backwards", of("person 0 0 0 mark 2;person 0 0 0 mark 0;person 0 0 0 mark 1;" + BY_MARK).triangle(), 21);
    Check.due("two of them don't fit", of(NO_WAY.replaceFirst("0 0 0", "7 7 7").replaceFirst("0 0 0", "7 7 7") + "fits:cross=0;").triangle(), -1);
    Check.due("one of them wouldn't", of(NO_WAY.replace("9-", "who*9-")).triangle(), -1);
    Check.due("0 likes 2 better", of(NO_WAY.replaceFirst("mark 1", "mark 2")).triangle(), -1);
    Check.due("1 likes 0 better", of(NO_WAY.replaceFirst("mark 2", "mark 0")).triangle(), -1);
    Check.due("2 likes 1 better", of(NO_WAY.replaceFirst("mark 0", "mark 1")).triangle(), -1);
    // Of those liked alike the lesser number: 0 likes 1 as well as 2, 2 likes 0 as well as 1; 1 likes 2 better.
    Check.due("alike", of(BARE.repeat(3) + "likes:1+who*(2-who)*whom;").triangle(), 12);
    Check.due("two people", of(BARE + BARE).triangle(), -1);
  }

  private static void leastFirst() {
    String mutual = "person 0 0 0 mark 1;person 0 0 0 mark 0;person 0 0 0 mark 3;person 0 0 0 mark 2;";
    Check.due("the last three", of(mutual + "person 0 0 0 mark 5;person 0 0 0 mark 6;person 0 0 0 mark 4;" + BY_MARK).triangle(), 456);
    Check.due("the last three, backwards", of(mutual + "person 0 0 0 mark 6;person 0 0 0 mark 4;person 0 0 0 mark 5;" + BY_MARK).triangle(), 465);
  }

  private static void fewestCells() {
    RingSign none = of(BARE + BARE);
    Check.due("they fit already", none.change(0, 1, 0), 0);
    Check.due("the sign as it is", none.change(0, 1, 1), 0);
    for (int ink = 0; ink <= 9; ink++) {
      RingSign x = of(BARE + BARE + "fits:ink=" + ink + ";");
      Check.due("cells more", x.change(0, 1, 0), ink);
      Check.due("the first ones", x.change(0, 1, 1), (1 << ink) - 1);
      RingSign y = of(FULL + BARE + "fits:ink=" + ink + ";");
      Check.due("cells less", y.change(0, 1, 0), 9 - ink);
      Check.due("the first ones stay", y.change(0, 1, 1), (1 << ink) - 1);
    }
    RingSign far = of(BARE + BARE + "fits:ink=10;");
    Check.due("none does", far.change(0, 1, 0), -1);
    Check.due("none does", far.change(0, 1, 1), -1);
    Check.due("it is the other one's ink, too", of(BARE + FULL + "fits:ink=10;").change(0, 1, 0), 1);
    Check.due("one more is fewer than two less", of("person 7 0 0;" + BARE + "fits:ink=1 or ink=4;").change(0, 1, 1), 15);
    Check.due("fitting is enough", of(BARE + BARE + "likes:0;").change(0, 1, 0), 0);
    RingSign crossing = of(FULL + FULL + "fits:cross=0;");
    Check.due("one corner", crossing.change(0, 1, 0), 1);
    Check.due("nothing is changed", crossing.person(0, 0), 511);
    Check.due("nothing can be undone", crossing.count(5), 0);
  }

  private static void leastSign() {
    // Without the last corner it has 255; without the first one it would have 510.
    Check.due("the last corner", of(FULL + FULL + "fits:cross=0;").change(0, 1, 1), 255);
    Check.due("one less or one more: less", of("person 7 0 0;" + BARE + "fits:ink=2 or ink=4;").change(0, 1, 1), 3);
    Check.due("of the last cell", of("person 0 0 1;" + BARE + "fits:ink=0 or ink=2;").change(0, 1, 1), 0);
    Check.due("one more: the first bare cell", of("person 6 0 1;" + BARE + "fits:ink=4;").change(0, 1, 1), 1 + 2 + 4 + 256);
    Check.due("one less: the last one", of("person 5 0 1;" + BARE + "fits:ink=2;").change(0, 1, 1), 5);
    Check.due("the second one's", of(BARE + "person 6 0 1;" + "fits:ink=4;").change(1, 0, 1), 1 + 2 + 4 + 256);
  }

  // ---- blots, answers

  private static void blot() {
    RingSign x = of(FULL + BARE + "person 4 0 1;");
    for (int c = 0; c < 9; c++) {
      boolean both = c == 0 || c == 8;
      Check.tray(x, 0, 0, 2 * c + 1);
      Check.due("ink in cell " + c, x.blot(0), both ? 5 : 1);
      Check.tray(x, 0, 0, 2 * c);
      Check.due("none in cell " + c, x.blot(0), both ? 2 : 6);
    }
    Check.tray(x, 1, 1, 1, 3, 5, 7, 9, 11, 13, 15, 17, 1, 3, 5, 7, 9, 11, 13, 15, 17);
    Check.due("18 numbers", x.blot(1), 1);
    Check.tray(x, 1, 1, 0, 1, 2, 3, 4, 5, 6, 7, 8, 9, 10, 11, 12, 13, 14, 15, 16, 17);
    Check.due("18 numbers that can't be at once", x.blot(1), 0);
    x.numbers(1, 1, 19);
    Check.due("19 numbers", x.blot(1), -4);
    x.numbers(1, 1, 0);
    Check.due("no numbers", x.blot(1), -4);
    x.numbers(1, 1, 1);
    Check.due("one number: none in cell 0", x.blot(1), 2);
    Check.tray(x, 2, 3, 18);
    Check.due("no cell 9", x.blot(2), -3);
    Check.tray(x, 2, 3, -1);
    Check.due("no cell below 0", x.blot(2), -3);
    Check.tray(x, 2, 3, (1L << 32) + 1);
    Check.due("far above", x.blot(2), -3);
  }

  private static void odds() {
    // One with odds 0 is among them all the same.
    RingSign x = of("person 4 0 0 odds 0;person 4 0 0 odds 9;person 4 0 0;person 0 0 0 odds 7;");
    Check.tray(x, 0, 0, 1);
    Check.due("these", x.blot(0), 7);
    int[] above = {0, 9, 1, 0};
    int[] below = {1, 10, 10, 1};
    for (int p = 0; p < 4; p++) {
      Check.due("above of " + p, x.likely(0, p, 0), above[p]);
      Check.due("below of " + p, x.likely(0, p, 1), below[p]);
    }
  }

  private static void answers() {
    RingSign x = of(BARE.repeat(3));
    long[][] wrong = {{}, {-1}, {-1, -1}, {-1, -1, -1, -1}, {-1, -1, -1, -1, -1, -1, -1, -1}};
    for (long[] numbers : wrong) {
      Check.tray(x, 0, 0, numbers);
      Check.due(numbers.length + " numbers", x.marks(0, 0), -4);
    }
    long[][] none = {{-2, -1, -1}, {3, -1, -1}, {-1, -1, 3}, {0, -1, -1}, {-1, 1, -1}, {-1, -1, 2}, {1, -1, -1}, {-1, 0, -1}, {1, 0, 0}, {1, 2, 0},
        {2, 0, 1}, {1, 2, 1}, {100, -1, -1}, {-128, -1, -1}};
    for (long[] numbers : none) {
      Check.tray(x, 0, 0, numbers);
      Check.due(java.util.Arrays.toString(numbers), x.marks(0, 0), -3);
    }
    long[][] good = {{-1, -1, -1}, {1, 0, -1}, {2, -1, 0}, {-1, 2, 1}};
    for (long[] numbers : good) {
      Check.tray(x, 0, 3, numbers);
      // Of all these but 0 with 1 holds, whatever the marks.
      Check.due(java.util.Arrays.toString(numbers), x.marks(0, 0), numbers[0] == 1 ? 1023 : 0);
    }
    Check.tray(x, 0, 3, 1, (1L << 32), -1);
    Check.due("far above", x.marks(0, 0), -3);
    Check.tray(x, 0, 3, 1, 0, 0xffffffffL);
    Check.due("far above", x.marks(0, 0), -3);
  }

  private static void marks() {
    // 0 likes 1 by its mark less 4, 1 likes 0 by 1.
    RingSign x = of("person 0 0 0 mark 2;person 0 0 0 mark 2;likes:(1-who)*(mark-4)+who;");
    Check.tray(x, 0, 0, 1, 0);
    Check.due("with each other: 5 to 9", x.marks(0, 0), 1023 - 31);
    Check.tray(x, 0, 0, -1, -1);
    Check.due("with nobody: 0 to 4", x.marks(0, 0), 31);
    Check.due("by no mark of 1", x.marks(0, 1), 1023);
    Check.due("its mark is as it was", x.person(0, 2), 2);
    RingSign zero = of(BARE + BARE + "likes:1-mark;");
    Check.tray(zero, 0, 0, 1, 0);
    Check.due("0 alone", zero.marks(0, 0), 1);
    RingSign nine = of("person 0 0 0 mark 9;person 0 0 0 mark 9;likes:mark-8;");
    Check.tray(nine, 0, 0, 1, 0);
    Check.due("9 alone", nine.marks(0, 1), 512);
  }

  // ---- the game, chance

  private static void game() {
    RingSign x = of(BARE.repeat(7));
    Check.due("four are added to none", x.lasts(0), 4);
    Check.due("three to one", x.lasts(64), 3);
    Check.due("none to four", x.lasts(15), 0);
    Check.due("none to five", x.lasts(31), 0);
    Check.due("none to all", x.lasts(127), 0);
    // A set that doesn't fit itself may get to one that does.
    RingSign y = of(BARE.repeat(3) + "fits:many=2;");
    Check.due("none to none", y.lasts(0), 0);
    Check.due("one to one", y.lasts(1), 1);
    Check.due("none to two", y.lasts(3), 0);
    Check.due("no people", new RingSign().lasts(0), 0);
  }

  private static void loses() {
    Check.due("no people", new RingSign().wins(0), 0);
    Check.due("none fits", of(BARE + "fits:1=2;").wins(0), 0);
    Check.due("all are in it", of(BARE + BARE).wins(3), 0);
    Check.due("one more, then none", of(BARE + BARE).wins(1), 1);
    Check.due("two more, then none", of(BARE + BARE).wins(0), 0);
    Check.due("one at all", of(BARE).wins(0), 1);
    Check.due("four are in it", of(BARE.repeat(5)).wins(15), 0);
  }

  private static void chance(RingSign x, int p, int above, int below) {
    Check.due("above of " + p, x.chance(p, 0), above);
    Check.due("below of " + p, x.chance(p, 1), below);
  }

  private static void atHome() {
    RingSign never = of(BARE + BARE);
    chance(never, 0, 1, 1);
    RingSign always = of("person 0 0 0 shy 10;" + BARE);
    chance(always, 0, 0, 1);
    chance(always, 1, 0, 1);
    RingSign x = of("person 0 0 0 shy 1;person 0 0 0 shy 2;");
    chance(x, 0, 18, 25);
    chance(x, 1, 18, 25);
    RingSign seven = of("person 0 0 0 shy 9;".repeat(7));
    // 0 is with somebody, if it is there and not alone: 1/10 less 1/10 of 9/10 six times.
    chance(seven, 0, 468559, 10000000);
    RingSign lone = of("person 0 0 0 shy 3;");
    chance(lone, 0, 0, 1);
  }

  private static void amongThem() {
    // All four there: the first of two pairings; else those two who match.
    RingSign x = of(TWO_WAYS);
    Check.due("the first of two", x.likeliest(0), 2);
    Check.due("the first of two", x.likeliest(1), 3);
    chance(x, 3, 1, 1);
    // Without 2, 0 and 1 both want 3, who likes 0 best.
    RingSign y = of(TWO_WAYS.replace("person 0 0 0 mark 1", "person 0 0 0 mark 1 shy 10"));
    Check.due("0 with 3", y.likeliest(0), 3);
    chance(y, 0, 1, 1);
    chance(y, 1, 0, 1);
    Check.due("nobody for 1", y.likeliest(1), -1);
    Check.due("2 stays at home", y.likeliest(2), -1);
    // Who is with whom now, by the text, is of no use.
    RingSign z = of(BARE.repeat(3) + "engaged 1 2;");
    Check.due("0 with 1", z.likeliest(0), 1);
    chance(z, 2, 0, 1);
  }

  private static void amongThemNone() {
    RingSign x = of(NO_WAY);
    for (int p = 0; p < 3; p++) chance(x, p, 0, 1);
    // Each two of them come to rest: one is there with just one of the others by 6/10 of 2 * 6/10 * 4/10.
    RingSign y = of(NO_WAY.replace(" mark", " shy 4 mark"));
    for (int p = 0; p < 3; p++) chance(y, p, 36, 125);
    RingSign z = of(NO_WAY.replaceFirst("mark 1", "mark 1 shy 10"));
    chance(z, 0, 0, 1);
    chance(z, 1, 1, 1);
    chance(z, 2, 1, 1);
  }

  // ---- a year

  /** x, by long numbers that are cut to 32 bits. */
  private static long drawn;

  private static int draw(int below) {
    drawn = (1103515245L * drawn + 12345) % (1L << 32);
    return (int) ((drawn >> 16) % below);
  }

  /** A year told call by call: how many could be. */
  private static int callByCall(RingSign y, int seed, int times) {
    drawn = seed & 0xffffffffL;
    int could = 0;
    for (int i = 0; i < times; i++) {
      int kind = draw(6);
      int p = draw(7);
      int answer = kind <= 2 ? y.engage(p, draw(7)) : kind == 3 ? y.part(p) : kind == 4 ? y.stroke(p, draw(9)) : y.mark(p, draw(10));
      if (answer >= 0) could++;
    }
    return could;
  }

  private static void alikeAfter(String lines, int seed, int times) {
    RingSign x = of(lines);
    RingSign y = of(lines);
    Check.due("year(" + seed + ", " + times + ")", x.year(seed, times), callByCall(y, seed, times));
    for (int p = 0; p < x.count(0); p++) {
      for (int what = 0; what <= 6; what++) Check.due("person(" + p + ", " + what + ") after " + seed, x.person(p, what), y.person(p, what));
    }
  }

  private static void draws() {
    int[] seeds = {0, 1, -1, 2, 12345, -12345, 65535, 65536, Integer.MAX_VALUE, Integer.MIN_VALUE, 0x7fff0000, 0x80000000, 0xffff0000, 1103515245};
    for (int seed : seeds) alikeAfter("person 7 7 7 mark 2;" + FULL + BARE.repeat(5) + "likes:1+mark+theirs-whom;", seed, 40);
    for (int seed = 100; seed < 160; seed++) alikeAfter(BARE.repeat(7), seed, 3);
  }

  private static void times() {
    RingSign x = of(BARE.repeat(7));
    int[] wrong = {0, 41, -1, 100, Integer.MIN_VALUE, Integer.MAX_VALUE};
    for (int times : wrong) Check.due("times " + times, x.year(1, times), -3);
    Check.due("nothing was done", x.count(5), 0);
    for (int times = 1; times <= 40; times++) alikeAfter(BARE.repeat(7), 77 + times, times);
  }

  private static void kindsOfDraws() {
    boolean[] met = new boolean[6];
    for (int seed = 0; seed < 60; seed++) {
      drawn = seed;
      int kind = draw(6);
      int p = draw(7);
      int q = draw(kind <= 2 ? 7 : kind == 4 ? 9 : 10);
      met[kind] = true;
      RingSign x = of(BARE.repeat(7) + "engaged 0 6;engaged 1 5;likes:9-whom;");
      int could = x.year(seed, 1);
      int with = p == 0 ? 6 : p == 6 ? 0 : p == 1 ? 5 : p == 5 ? 1 : -1;
      if (kind <= 2 && could == 1) Check.due("seed " + seed + ": with whom", x.person(p, 5), q);
      if (kind == 3) Check.due("seed " + seed + ": parts", could, with >= 0 ? 1 : 0);
      if (kind == 3) Check.due("seed " + seed + ": with nobody", x.person(p, 5), -1);
      if (kind == 4) Check.due("seed " + seed + ": sign", x.person(p, 0), 1 << q);
      if (kind == 5) Check.due("seed " + seed + ": mark", x.person(p, 2), q);
      if (kind >= 4) Check.due("seed " + seed + ": could", could, 1);
    }
    for (int kind = 0; kind < 6; kind++) Check.that("kind " + kind + " was drawn", met[kind]);
  }

  private static void ifItCanBe() {
    for (int people = 0; people <= 7; people++) alikeAfter(BARE.repeat(people), 5, 40);
    Check.due("nobody can", new RingSign().year(5, 40), 0);
    Check.due("they never match", of(BARE.repeat(7) + "likes:0;").year(5, 1), callByCall(of(BARE.repeat(7) + "likes:0;"), 5, 1));
  }

  // ---- trays, images

  private static void missing() {
    RingSign x = of(BARE);
    for (int tray = 0; tray < 4; tray++) {
      Check.due("missing " + tray, x.judge(tray, 0), -6);
      Check.due("missing " + tray, x.write(tray, 0, 1), -6);
    }
    Check.due("no tray 4", x.judge(4, 0), -2);
    Check.due("no tray -1", x.judge(-1, 0), -2);
    x.numbers(3, 0, 0);
    Check.due("not missing any more, though without numbers", x.judge(3, 0), -1);
    Check.due("the others are", x.judge(2, 0), -6);
  }

  private static void forty() {
    RingSign x = of(BARE);
    for (int n : new int[] {0, 1, 39, 40}) {
      Check.due("numbers", x.numbers(0, 3, n), 0);
      if (n > 0) Check.due("the last of " + n, x.write(0, n - 1, n), n);
      Check.due("none behind " + n, x.write(0, n, 1), -7);
    }
    Check.due("41", x.numbers(0, 3, 41), -3);
    Check.due("-1", x.numbers(0, 3, -1), -3);
    // Forty marks, the last of which tells how far it was done.
    for (int i = 0; i < 40; i++) x.write(0, i, 300 + i % 10);
    Check.due("forty deeds", x.perform(0), 40);
    Check.due("the last one", x.person(0, 2), 9);
  }

  private static void sorts() {
    RingSign x = new RingSign();
    for (int sort = 0; sort < 4; sort++) {
      int bits = 8 << sort;
      long high = sort == 3 ? Long.MAX_VALUE : (1L << bits - 1) - 1;
      x.numbers(sort, sort, 2);
      Check.due("highest", x.write(sort, 1, high), high);
      Check.due("one above", x.write(sort, 1, high + 1), -high - 1);
      Check.due("lowest", x.write(sort, 1, -high - 1), -high - 1);
      Check.due("one below", x.write(sort, 1, -high - 2), high);
      Check.due("-1", x.write(sort, 0, -1), -1);
      Check.due("all bits of it", x.write(sort, 0, high * 2 + 1), -1);
      if (sort < 3) Check.due("the next bit", x.write(sort, 0, 1L << bits), 0);
      if (sort < 3) Check.due("the next bit, and 5", x.write(sort, 0, (1L << bits) + 5), 5);
      Check.due("the highest of all", x.write(sort, 0, Long.MIN_VALUE), sort == 3 ? Long.MIN_VALUE : 0);
    }
    Check.due("no sort 4", x.numbers(0, 4, 1), -2);
    Check.due("no sort -1", x.numbers(0, -1, 1), -2);
  }

  private static void images() {
    RingSign x = of("person 7 0 0 mark 1 shy 2 odds 3;" + BARE + BARE + "engaged 0 1;likes:5-whom;fits:cross<3;");
    x.stroke(2, 4);
    x.mark(2, 7);
    x.part(0);
    x.engage(1, 2);
    int[][] was = new int[3][7];
    for (int p = 0; p < 3; p++) for (int what = 0; what < 7; what++) was[p][what] = x.person(p, what);
    Check.due("image 0", x.image(0), 0);
    Check.due("no image 2", x.image(2), -2);
    Check.due("no image -1", x.image(-1), -2);
    x.undo(4);
    Check.due("image 1", x.image(1), 0);
    Check.that("another text", Check.tell(x, "society;" + FULL + FULL + "fits:1=2;likes:0;") > 0);
    Check.due("restored", x.restore(0), 0);
    for (int p = 0; p < 3; p++) for (int what = 0; what < 7; what++) Check.due("person(" + p + ", " + what + ")", x.person(p, what), was[p][what]);
    Check.due("the law likes", x.likes(0, 2), 3);
    Check.due("the law fits", x.fits(7), 1);
    Check.due("lines", x.count(7), 7);
    Check.due("the other image", x.restore(1), 0);
    Check.due("as it was undone", x.person(2, 0), 0);
    Check.due("0 with 1", x.person(0, 5), 1);
  }

  private static void nothingBehind() {
    RingSign x = of(BARE);
    x.stroke(0, 0);
    x.image(0);
    Check.due("an image leaves what can be undone", x.count(5), 1);
    x.stroke(0, 1);
    x.restore(0);
    Check.due("none", x.count(5), 0);
    Check.due("undo", x.undo(1), -3);
    Check.due("as in the image", x.person(0, 0), 1);
    x.stroke(0, 2);
    Check.due("one from here on", x.undo(1), 0);
    Check.due("back to the image, not behind it", x.person(0, 0), 1);
  }

  private static void noImages() {
    RingSign x = of(BARE);
    Check.due("none 0", x.restore(0), -5);
    Check.due("none 1", x.restore(1), -5);
    x.image(1);
    Check.due("still none 0", x.restore(0), -5);
    Check.due("there is 1", x.restore(1), 0);
    RingSign empty = new RingSign();
    empty.image(0);
    Check.tell(empty, "society;" + BARE);
    Check.due("of no people", empty.restore(0), 0);
    Check.due("no people", empty.count(0), 0);
    Check.due("no lines", empty.count(7), 0);
  }
}
