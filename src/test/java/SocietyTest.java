/** Promises 1 to 7: a new object, the tape, the text and its faults, people, crossings, likes. */
public final class SocietyTest {
  public static void main(String[] args) {
    newObject();
    tape();
    societyStays();
    faults();
    goodTexts();
    people();
    crossings();
    likes();
    laws();
    Check.end();
  }

  private static void newObject() {
    RingSign x = new RingSign();
    for (int what = 0; what <= 7; what++) Check.due("new count(" + what + ")", x.count(what), 0);
    Check.due("new fault(0)", x.fault(0), 0);
    Check.due("new fault(1)", x.fault(1), -1);
    Check.due("new person", x.person(0, 0), -2);
    Check.due("new pairings", x.pairings(), 1);
    Check.due("NONE", RingSign.NONE, -1);
  }

  private static void tape() {
    RingSign x = new RingSign();
    // 's' is the highest byte of the first int.
    Check.due("feed", x.feed(0x736f6369, 0x6574793b, 0x20202020, 0x20202020, 0x20202020), 20);
    for (int i = 2; i <= 45; i++) Check.due("feed " + i, x.feed(0x20202020, 0x0a0a0a0a, 0x20202020, 0x20202020, 0x20202020), 20 * i);
    Check.due("feed, too much", x.feed(0, 0, 0, 0, 0), -5);
    Check.due("tape stays", x.count(6), 900);
    Check.due("n below 0", x.society(-1), -3);
    Check.due("n above the tape", x.society(901), -3);
    Check.due("n of no int", x.society(Integer.MIN_VALUE), -3);
    Check.due("tape stays with -3", x.count(6), 900);
    Check.due("900 bytes", x.society(900), 1);
    Check.due("tape is empty then", x.count(6), 0);
    Check.due("lines", x.count(7), 1);
    Check.due("nothing on the tape", x.society(0), -32);
    Check.due("fault's place", x.fault(1), 0);
    Check.due("n above an empty tape", x.society(1), -3);
    Check.due("fault() is of the latest read", x.fault(0), 2);
    x.feed(-1, -1, -1, -1, -1);
    Check.due("bytes of 255", x.society(20), -31);
    Check.feed(x, "society;person 7 7 7;person 1 1 1;");
    Check.due("the first n bytes", x.society(21), 2);
    Check.due("the rest is gone", x.count(6), 0);
    Check.due("people", x.count(0), 1);
  }

  private static void societyStays() {
    RingSign x = Check.of("society;person 7 0 0 mark 1 shy 2 odds 3;person 0 0 7;engaged 0 1;");
    x.part(0);
    String before = Check.all(x).replaceAll("\\d+ -?\\d+\\|.*", "");
    Check.due("a text with a fault", Check.tell(x, "society;person 0 0 0;person 0 0 0;fits 1;"), -32);
    Check.that("all stays with a fault", Check.all(x).startsWith(before));
    Check.due("people stay", x.count(0), 2);
    Check.due("sign stays", x.person(0, 0), 7);
    Check.due("lines stay", x.count(7), 4);
    Check.due("it can still be undone", x.count(5), 1);
    Check.due("undo", x.undo(1), 0);
    Check.due("engaged again", x.person(0, 5), 1);
    x.part(0);
    Check.due("a new text", Check.tell(x, "society;person 1 0 0;"), 2);
    Check.due("no fault", x.fault(0), 0);
    Check.due("no place", x.fault(1), -1);
    Check.due("nothing can be undone", x.count(5), 0);
    Check.due("undo then", x.undo(1), -3);
    Check.due("other whats of fault", x.fault(2), -1);
    Check.due("other whats of fault", x.fault(-1), -1);
    Check.due("nothing but society", Check.tell(x, "society;"), 1);
    Check.due("no people", x.count(0), 0);
    String two = "society;person 7 7 7 mark 9 shy 8 odds 7;person 7 7 7;engaged 0 1;";
    Check.due("with laws", Check.tell(x, two + "fits : cross = 0;likes : 5;"), 6);
    Check.due("the law likes", x.likes(0, 1), 5);
    Check.due("the law fits", x.fits(3), 0);
    Check.due("without laws", Check.tell(x, "society;person 7 7 7;person 7 7 7;"), 3);
    Check.due("no law likes", x.likes(0, 1), 1);
    Check.due("no law fits", x.fits(3), 1);
    int[] bare = {511, 9, 0, 0, 1, -1, 2};
    for (int what = 0; what < 7; what++) Check.due("as if told first: " + what, x.person(0, what), bare[what]);
  }

  private static void faults() {
    Check.fault(2, "^");
    Check.fault(2, "   ^");
    Check.fault(2, "society^");
    Check.fault(2, "society \n ^");
    Check.fault(2, "^person 0 0 0;");
    Check.fault(2, "^societyx;");
    Check.fault(2, "^o;");
    Check.fault(2, "^ociety;");
    Check.fault(2, "^societ;");
    Check.fault(2, "^;");
    Check.fault(2, "^7;");
    Check.fault(2, "society;^;");
    Check.fault(2, "society;^society;");
    Check.fault(2, "society;^spoon;");
    Check.fault(2, "society;^7;");
    Check.fault(2, "society;^zoo;");
    Check.fault(2, "society;^aaz0");
    Check.fault(1, "^Society;");
    Check.fault(1, "society;^\tperson 0 0 0;");
    Check.fault(1, "society^,");
    Check.fault(1, "society;person ^0000 0 0;");
    Check.fault(1, "society;person 0 0 0 ^12345;");
    Check.fault(1, "society;person 0 0 0;^\u00e9");
    Check.fault(1, "society;likes : 1^.5;");
    // The first along the text strikes, whatever its kind.
    Check.fault(3, "society;person ^8 0000 ?");
    Check.fault(2, "society;^spoon ? 1000;");
    // person
    Check.fault(2, "society;person^;");
    Check.fault(2, "society;person 0 0^;");
    Check.fault(2, "society;person 0 0 0 ^0;");
    Check.fault(2, "society;person 0 0 0 ^bold;");
    Check.fault(2, "society;person 0 0 0 ^person 0 0 0;");
    Check.fault(2, "society;person 0 0 0^");
    Check.fault(2, "society;person 0 0 0 mark^;");
    Check.fault(2, "society;person 0 0 0 mark ^shy 1;");
    Check.fault(3, "society;person 0 ^8 0;");
    Check.fault(3, "society;person 0 0 ^999;");
    Check.fault(3, "society;person 0 0 0 mark ^10;");
    Check.fault(3, "society;person 0 0 0 shy ^11;");
    Check.fault(3, "society;person 0 0 0 odds ^10;");
    Check.fault(2, "society;person ^- 0 0;");
    String seven = "society;person 0 0 0;person 0 0 0;person 0 0 0;person 0 0 0;person 0 0 0;person 0 0 0;person 0 0 0;";
    Check.fault(4, seven + "^person 0 0 0;");
    Check.fault(4, seven + "^person 9 9");
    Check.fault(2, seven + "^persons 0 0 0;");
    // engaged
    String two = "society;person 0 0 0;person 0 0 0;";
    Check.fault(3, "society;engaged ^0 1;");
    Check.fault(3, two + "engaged ^2 0;");
    Check.fault(3, two + "engaged 0 ^2;");
    Check.fault(3, two + "engaged 0 ^0;");
    Check.fault(2, two + "engaged 0^;");
    Check.fault(2, two + "engaged ^who 1;");
    Check.fault(2, two + "engaged 0 1 ^0;");
    Check.fault(3, two + "person 0 0 0;engaged 0 1;engaged ^1 2;");
    Check.fault(3, two + "person 0 0 0;engaged 0 1;engaged 2 ^0;");
    Check.fault(3, "society;person 0 0 0;engaged 0 ^1;person 0 0 0;");
    // laws
    Check.fault(2, "society;fits ^1 = 1;");
    Check.fault(2, "society;fits : ^;");
    Check.fault(2, "society;fits : 1 ^;");
    Check.fault(2, "society;fits : 1 = ^;");
    Check.fault(2, "society;fits : 1 = 1 ^= 1;");
    Check.fault(2, "society;fits : (cross ^= 1);");
    Check.fault(2, "society;fits : [cross^];");
    Check.fault(2, "society;fits : [cross = 1^;");
    Check.fault(2, "society;fits : not ^and 1 = 1;");
    Check.fault(2, "society;fits : 1 = 1 or ^or 1 = 1;");
    Check.fault(2, "society;fits : 1 = 1 ^);");
    Check.fault(2, "society;fits : 1 = 1 ^];");
    Check.fault(2, "society;fits : ^who = 1;");
    Check.fault(2, "society;fits : ^whom = 1;");
    Check.fault(2, "society;fits : ^mark = 1;");
    Check.fault(2, "society;fits : 1 = ^theirs;");
    Check.fault(2, "society;fits : 1 + ^- 1 = 1;");
    Check.fault(2, "society;fits : 1 = 1 ^not 1 = 1;");
    Check.fault(2, "society;likes ^;");
    Check.fault(2, "society;likes : ^many;");
    Check.fault(2, "society;likes : ^not 1;");
    Check.fault(2, "society;likes : ^[1];");
    Check.fault(2, "society;likes : 1 ^< 2;");
    Check.fault(2, "society;likes : 1 ^1;");
    Check.fault(2, "society;likes : (1^;");
    Check.fault(2, "society;likes : (^);");
    Check.fault(2, "society;likes : 1 * ^;");
    Check.fault(2, "society;likes : 1 + ^fits;");
    Check.fault(2, "society;likes : 1^");
    // depth
    Check.fault(4, "society;likes : ((((((^(1)))))));");
    Check.fault(4, "society;likes : ((((((1 + ^(1)))))));");
    Check.fault(4, "society;fits : not not not not not not ^not 1 = 1;");
    Check.fault(4, "society;fits : [[[[[[^[1 = 1]]]]]]];");
    Check.fault(4, "society;fits : not [ not [ not [ ^(1) = 1 ] ] ];");
    Check.fault(4, "society;fits : ((((((1)))))) = ((((((^(1)))))));");
    Check.fault(2, "society;likes : ((((((^[1]))))));");
  }

  private static void goodTexts() {
    RingSign x = new RingSign();
    Check.due("nothing but society", Check.tell(x, " \n society\n;\n"), 1);
    Check.due("no blanks", Check.tell(x, "society;person7 0 0mark1shy2odds3;person0 1 2;engaged0 1;fits:cross<2and not[many>3or ink=0];likes:who+whom*2-(mark-theirs);"), 6);
    Check.due("lines", x.count(7), 6);
    Check.due("numbers with noughts ahead", Check.tell(x, "society;person 007 000 01 mark 009 shy 010;"), 2);
    Check.due("its sign", x.person(0, 0), 7 | 1 << 8);
    Check.due("its mark", x.person(0, 2), 9);
    Check.due("its shyness", x.person(0, 3), 10);
    Check.due("later flags strike", Check.tell(x, "society;person 0 0 0 mark 1 shy 1 odds 5 mark 2 odds 0 shy 3 mark 3;"), 2);
    Check.due("mark", x.person(0, 2), 3);
    Check.due("shy", x.person(0, 3), 3);
    Check.due("odds", x.person(0, 4), 0);
    Check.due("six within one another", Check.tell(x, "society;fits : not not [ [ not ( 1 ) = 1 ] ];fits : ((((((1)))))) = ((((((1))))));likes : ((((((1))))));"), 4);
    Check.due("many beside one another", Check.tell(x, "society;fits : not 1=1 and not 1=1 and not 1=1 or not 1=1 and [1=1] and [1=1] and (1)=(1) and not 1=1;"), 2);
    StringBuilder seven = new StringBuilder("society;");
    for (int p = 0; p < 7; p++) seven.append("person 0 0 ").append(p).append(";");
    Check.due("seven people", Check.tell(x, seven + "engaged 6 0;engaged 1 5;engaged 2 3;"), 11);
    Check.due("who is with somebody", x.count(1), 127 - 16);
    Check.due("twos", x.count(2), 3);
    Check.due("with whom", x.person(6, 5), 0);
    Check.due("with whom", x.person(0, 5), 6);
    Check.due("with nobody", x.person(4, 5), -1);
    StringBuilder longest = new StringBuilder("society;likes:1");
    while (longest.length() < 898) longest.append("+1");
    longest.append(";");
    while (longest.length() < 900) longest.append(" ");
    Check.due("a long law", Check.tell(x, longest.toString()), 2);
    StringBuilder l = new StringBuilder("society;person 0 0 0;person 0 0 0;likes:1");
    int ones = 1;
    while (l.length() < 896) { l.append("+1"); ones++; }
    Check.due("a long law with two", Check.tell(x, l + ";"), 4);
    Check.due("its sum", x.likes(0, 1), ones);
  }

  private static void people() {
    RingSign x = Check.of("society;person 4 2 1 mark 3 shy 4 odds 5;person 7 7 7;person 0 0 0 odds 0;engaged 1 0;");
    // Cells 0, 4 and 8.
    Check.due("sign", x.person(0, 0), 1 + 16 + 256);
    Check.due("cells", x.person(0, 1), 3);
    Check.due("mark", x.person(0, 2), 3);
    Check.due("shy", x.person(0, 3), 4);
    Check.due("odds", x.person(0, 4), 5);
    Check.due("with", x.person(0, 5), 1);
    Check.due("matches", x.person(0, 6), 6);
    Check.due("sign of all cells", x.person(1, 0), 511);
    Check.due("mark unless told", x.person(1, 2), 0);
    Check.due("shy unless told", x.person(1, 3), 0);
    Check.due("odds unless told", x.person(1, 4), 1);
    Check.due("with", x.person(1, 5), 0);
    Check.due("with nobody", x.person(2, 5), -1);
    Check.due("odds of nought", x.person(2, 4), 0);
    Check.due("what", x.person(0, 7), -2);
    Check.due("what", x.person(0, -1), -2);
    Check.due("no such one", x.person(3, 0), -2);
    Check.due("no such one", x.person(-1, 0), -2);
    Check.due("no such one", x.person(Integer.MAX_VALUE, 0), -2);
  }

  private static void crossings() {
    RingSign x = Check.of("society;person 7 7 7;person 7 7 7;person 5 5 5;person 2 2 2;");
    Check.due("full ones touch in a cell", x.crosses(0, 1), 1);
    Check.due("both ways", x.crosses(1, 0), 1);
    Check.due("a column beside columns", x.crosses(2, 3), 0);
    Check.due("both one", x.crosses(1, 1), -2);
    Check.due("no such one", x.crosses(0, 4), -2);
    Check.due("no such one", x.crosses(-1, 0), -2);
    x.stroke(0, 8);
    Check.due("crossings after a stroke", x.crosses(0, 1), 0);
    x.undo(1);
    Check.due("crossings after undoing", x.crosses(0, 1), 1);
  }

  private static int liking(String law) {
    RingSign x = Check.of("society;person 7 7 7 mark 2;person 7 7 7 mark 5;person 7 7 3 mark 9;likes : " + law + ";");
    return x.likes(1, 2);
  }

  private static void likes() {
    RingSign none = Check.of("society;person 0 0 0;person 0 0 0;");
    Check.due("without a law", none.likes(0, 1), 1);
    Check.due("both one", none.likes(0, 0), -99000002);
    Check.due("no such one", none.likes(0, 2), -99000002);
    Check.due("no such one", none.likes(-1, 0), -99000002);
    Check.due("who", liking("who"), 1);
    Check.due("whom", liking("whom"), 2);
    Check.due("mark", liking("mark"), 5);
    Check.due("theirs", liking("theirs"), 9);
    Check.due("ink is the other one's", liking("ink"), 8);
    Check.due("cross", liking("cross"), 0);
    Check.due("a number", liking("999"), 999);
    Check.due("cross", Check.of("society;person 7 7 7;person 7 7 7;likes : cross * 5 + 2;").likes(0, 1), 7);
    Check.due("* ahead of +", liking("1 + 2 * 3"), 7);
    Check.due("from the left", liking("10 - 3 - 2"), 5);
    Check.due("from the left", liking("10 - 3 + 2"), 9);
    Check.due("( )", liking("10 - (3 - 2) * 4"), 6);
    Check.due("* * +", liking("2 * 3 * 4 + 5 * 6"), 54);
    Check.due("kept above", liking("999 * 999 * 999"), 1000000);
    Check.due("kept below", liking("0 - 999 * 999 * 999"), -1000000);
    Check.due("kept below", liking("(0 - 999 * 999) * 999"), -1000000);
    Check.due("each is kept", liking("999 * 999 * 999 - 1"), 999999);
    Check.due("each is kept", liking("999 * 999 + 999 * 999 - 999 * 999"), 1000000 - 998001);
    Check.due("great ones", liking("999 * 999 * 999 * (999 * 999 * 999)"), 1000000);
    Check.due("great ones", liking("(0 - 999 * 999 * 999) * (999 * 999 * 999)"), -1000000);
    Check.due("the later law", liking("1;likes : 2"), 2);
    RingSign x = Check.of("society;person 0 0 0 mark 2;person 0 0 0 mark 5;likes : mark * 10 + theirs;");
    Check.due("likes", x.likes(0, 1), 25);
    x.mark(1, 7);
    Check.due("likes after a mark", x.likes(0, 1), 27);
    Check.due("likes after a mark", x.likes(1, 0), 72);
    x.undo(1);
    Check.due("likes after undoing", x.likes(1, 0), 52);
  }

  /** Whether two full signs, with one crossing and 18 cells with ink, fit. */
  private static int fit(String law) {
    return Check.of("society;person 7 7 7;person 7 7 7;fits : " + law + ";").fits(3);
  }

  private static void laws() {
    Check.due("without a law", Check.of("society;person 7 7 7;person 7 7 7;").fits(3), 1);
    Check.due("cross", fit("cross = 1"), 1);
    Check.due("ink", fit("ink = 18"), 1);
    Check.due("many", fit("many = 2"), 1);
    Check.due("<", fit("cross < 1"), 0);
    Check.due("<", fit("cross < 2"), 1);
    Check.due(">", fit("cross > 1"), 0);
    Check.due(">", fit("cross > 0"), 1);
    Check.due("not", fit("not cross = 1"), 0);
    Check.due("not not", fit("not not cross = 1"), 1);
    Check.due("not is of one UNIT", fit("not 1 = 2 and 1 = 2"), 0);
    Check.due("not of [ ]", fit("not [1 = 2 and 1 = 2]"), 1);
    Check.due("and ahead of or", fit("1 = 1 or 1 = 1 and 1 = 2"), 1);
    Check.due("[ ]", fit("[1 = 1 or 1 = 1] and 1 = 2"), 0);
    Check.due("and ahead of or", fit("1 = 2 and 1 = 1 or 1 = 1"), 1);
    Check.due("or", fit("1 = 2 or 1 = 3 or 1 = 4"), 0);
    Check.due("and", fit("1 = 1 and 2 = 2 and 3 = 4"), 0);
    Check.due("sums", fit("ink - many * 9 = cross - 1"), 1);
    Check.due("the later law", fit("1 = 1;fits : 1 = 2"), 0);
    Check.due("below nought", fit("0 - 5 < 0 - 4"), 1);
  }
}
