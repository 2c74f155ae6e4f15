/** The edges of the society's text, sentence by sentence: the first part of the document's terms. */
public final class TextEdgesTest {
  private static final String BARE = "person 0 0 0;";
  private static final String SEVEN = BARE.repeat(7);
  private static final String SIGNS = ";:+-*()[]=<>";

  public static void main(String[] args) {
    Doc doc = Doc.part("THE SOCIETY is a TEXT", "==== 2.");
    doc.says("THE SOCIETY is a TEXT of at most 900 bytes (without one: no PEOPLE):", TextEdgesTest::length)
        .says("society ; { LINE ; }", TextEdgesTest::lines)
        .says("LINE: person N N N { FLAG } | engaged N N | fits : TRUTH | likes : SUM.", TextEdgesTest::kindsOfLines)
        .says("FLAG: mark N | shy N | odds N.", TextEdgesTest::flags)
        .says("TRUTH: BOTH { or BOTH }; BOTH: UNIT { and UNIT };", TextEdgesTest::truths)
        .says("UNIT: not UNIT, [ TRUTH ], or SUM, one of = < >, SUM.", TextEdgesTest::units)
        .says("SUM: TERM { + TERM | - TERM }; TERM: ATOM { * ATOM };", TextEdgesTest::sums)
        .says("ATOM: N, ( SUM ), cross, ink, in fits many, in likes who, whom, mark, theirs too.", TextEdgesTest::atoms)
        .says("At most six of not [ ( within one another.", TextEdgesTest::six)
        .says("person: its SIGN: three rows of three CELLS, each row a number 0 to 7"
            + " (4: its first CELL has INK, 2: its second, 1: its third, added);", TextEdgesTest::rows)
        .says("CELLS are numbered row by row from 0 to 8;", TextEdgesTest::cells)
        .says("mark 0 to 9 (0);", () -> flag("mark", 2, 9, 0))
        .says("shy: how likely, in 10, it stays at home, 0 to 10 (0);", TextEdgesTest::shy)
        .says("odds 0 to 9 (1);", () -> flag("odds", 4, 9, 1))
        .says("later ones of a flag strike;", TextEdgesTest::laterFlags)
        .says("numbered from 0 on, 7 at most.", TextEdgesTest::sevenAtMost)
        .says("engaged: two told ahead, not one, neither engaged yet", TextEdgesTest::engaged)
        .says("(they are with each other, whether they MATCH or not).", TextEdgesTest::engagedWithoutMatching)
        .says("Later ones of fits, likes strike.", TextEdgesTest::laterLaws)
        .says("TOKENS, as long as they go on,", TextEdgesTest::asLongAsTheyGoOn)
        .says("between them blanks (10, 32):", TextEdgesTest::blanks)
        .says("words (small letters),", TextEdgesTest::words)
        .says("N (1 to 3 digits),", TextEdgesTest::digits)
        .says("the signs ; : + - * ( ) [ ] = < >.", TextEdgesTest::signs)
        .says("FAULTS, the first along the text,", TextEdgesTest::firstFault)
        .says("of one TOKEN the least kind:", TextEdgesTest::leastKind)
        .says("1 no TOKEN begins so (4 digits and more: at their first).", TextEdgesTest::noToken)
        .says("2 it can't stand there (the end: the text's length;", TextEdgesTest::theEnd)
        .says("society must be told first, and once;", TextEdgesTest::societyOnce)
        .says("a word of the other law).", TextEdgesTest::otherLaw)
        .says("3 an N out of its bounds", TextEdgesTest::outOfBounds)
        .says("(a PERSON that isn't told, one and the same, one that is engaged).", TextEdgesTest::notToBeEngaged)
        .says("4 the first TOKEN of an 8th person;", TextEdgesTest::eighth)
        .says("a seventh of not [ (.", TextEdgesTest::seventh)
        .end();
    Check.end();
  }

  /** Lines that are told: how many with society itself, and no fault. */
  private static RingSign good(int lines, String rest) {
    RingSign x = new RingSign();
    Check.due("society;" + rest, Check.tell(x, "society;" + rest), lines);
    Check.due("no fault of " + rest, x.fault(0), 0);
    Check.due("no place of " + rest, x.fault(1), -1);
    return x;
  }

  private static void bad(int kind, String marked) { Check.fault(kind, "society;" + marked); }

  /** Whether two bare ones fit by a law: no crossings, no ink, two of them. */
  private static void truth(int want, String law) {
    Check.due(law, good(4, BARE + BARE + "fits:" + law + ";").fits(3), want);
  }

  /** How much 0, with mark 3, likes 1, with mark 5 and two cells. */
  private static void sum(int want, String law) {
    Check.due(law, good(4, "person 0 0 0 mark 3;person 1 1 0 mark 5;likes:" + law + ";").likes(0, 1), want);
  }

  private static void length() {
    RingSign none = new RingSign();
    Check.due("no people", none.count(0), 0);
    Check.due("no lines", none.count(7), 0);
    String text = "society;" + " ".repeat(879) + "person 7 7 7;";
    Check.due("its length", text.length(), 900);
    RingSign x = new RingSign();
    Check.due("900 bytes, of which the last counts", Check.tell(x, text), 2);
    Check.due("its one person", x.person(0, 0), 511);
    Check.feed(x, text);
    Check.due("the same less its last byte", x.society(899), -32);
    Check.due("the end", x.fault(1), 899);
    Check.feed(x, text);
    Check.due("no more than 900", x.feed(0x20202020, 0x20202020, 0x20202020, 0x20202020, 0x20202020), -5);
    Check.due("none above 900", x.society(901), -3);
    Check.due("as it was", x.society(900), 2);
    String law = "society;" + BARE + BARE + "likes:1";
    String ones = law + "+1".repeat((899 - law.length()) / 2);
    Check.due("a law up to the last byte", Check.tell(x, ones + " ".repeat(899 - ones.length()) + ";"), 4);
    Check.due("all its parts count", x.likes(0, 1), 1 + (899 - law.length()) / 2);
    // No text has more tokens than bytes.
    Check.due("900 tokens", Check.tell(x, ";".repeat(900)), -32);
    Check.due("899 tokens", Check.tell(x, ";".repeat(899)), -32);
    Check.due("900 bytes that begin no token", Check.tell(x, ",".repeat(900)), -31);
    // Tokens that go on to the last byte, and might go on behind it.
    for (String last : new String[] {"p", "perso", "person", "wh", "0", "12", "999", "1000"}) {
      int place = 900 - last.length();
      RingSign y = new RingSign();
      int kind = last.equals("1000") ? 1 : 2;
      Check.due("900 bytes up to " + last, Check.tell(y, "society;" + " ".repeat(place - 8) + last), -30 - kind);
      Check.due("its place", y.fault(1), last.equals("person") ? 900 : place);
      Check.due("900 bytes of a law up to " + last, Check.tell(y, "society;likes:" + " ".repeat(place - 14) + last), -30 - kind);
      boolean number = kind == 2 && last.charAt(0) <= '9';
      Check.due("its place", y.fault(1), number ? 900 : place);
    }
    Check.due("as many tokens as a good text can have", Check.tell(x, "society;likes:1" + "*1".repeat(442) + ";"), 2);
    Check.due("a long law told again", Check.tell(x, ones + ";"), 4);
    Check.due("all its parts count", x.likes(1, 0), 1 + (899 - law.length()) / 2);
  }

  private static void lines() {
    good(1, "");
    good(1, " \n ");
    Check.due("count(7)", good(2, "likes:1;").count(7), 2);
    Check.due("112 lines", good(112, "likes:1;".repeat(111)).count(7), 112);
    Check.fault(2, "society^");
    Check.fault(2, "society ^likes:1;");
    bad(2, "^;");
    bad(2, "likes:1^");
    bad(2, "likes:1;^;");
    bad(2, "likes:1 ^likes:1;");
    bad(2, "likes:1;^1;");
  }

  private static void kindsOfLines() {
    good(2, "person 0 0 0;");
    bad(2, "person^;");
    bad(2, "person 0^;");
    bad(2, "person 0 0^;");
    bad(2, "person 0 0 0 ^0;");
    bad(2, "person ^: 0 0 0;");
    good(4, BARE + BARE + "engaged 0 1;");
    bad(2, BARE + BARE + "engaged^;");
    bad(2, BARE + BARE + "engaged 0^;");
    bad(2, BARE + BARE + "engaged 0 1 ^1;");
    bad(2, BARE + BARE + "engaged 0 1 ^mark 1;");
    good(2, "fits:1=1;");
    bad(2, "fits^;");
    bad(2, "fits:^;");
    bad(2, "fits ^1=1;");
    bad(2, "fits:^:1=1;");
    bad(2, "fits:1=1 ^mark 1;");
    good(2, "likes:1;");
    bad(2, "likes^;");
    bad(2, "likes:^;");
    bad(2, "likes ^1;");
    bad(2, "likes:1^=1;");
    bad(2, "^mark 1;");
    bad(2, "^shy 1;");
    bad(2, "^odds 1;");
    bad(2, "^not 1=1;");
  }

  private static void flags() {
    RingSign x = good(2, "person 0 0 0 mark 4 shy 5 odds 6;");
    Check.due("mark", x.person(0, 2), 4);
    Check.due("shy", x.person(0, 3), 5);
    Check.due("odds", x.person(0, 4), 6);
    RingSign y = good(3, "person 0 0 0;person 0 0 0 odds 6 mark 4;");
    Check.due("mark of the second", y.person(1, 2), 4);
    Check.due("odds of the second", y.person(1, 4), 6);
    Check.due("mark of the first", y.person(0, 2), 0);
    Check.due("odds of the first", y.person(0, 4), 1);
    Check.due("171 flags", good(2, "person 0 0 0" + "shy 1".repeat(170) + "shy 7;").person(0, 3), 7);
    for (String flag : new String[] {"mark", "shy", "odds"}) {
      bad(2, "person 0 0 0 " + flag + "^;");
      bad(2, "person 0 0 0 " + flag + " ^" + flag + " 1;");
      bad(2, "person 0 0 0 " + flag + " 1 ^1;");
      bad(2, "person 0 0 0 " + flag + " ^- 1;");
      bad(2, "person 0 0 0 " + flag + " ^: 1;");
      bad(2, "person 0 0 ^" + flag + " 1;");
    }
    bad(2, "person 0 0 0 ^many 1;");
    bad(2, "person 0 0 0 ^theirs 1;");
  }

  private static void truths() {
    truth(1, "1=1");
    truth(0, "1=2");
    truth(1, "1=2" + " or 1=2".repeat(50) + " or 1=1");
    truth(0, "1=2" + " or 1=2".repeat(51));
    truth(1, "1=1" + " and 1=1".repeat(50));
    truth(0, "1=1" + " and 1=1".repeat(50) + " and 1=2");
    truth(0, "1=2" + " and 1=1".repeat(50));
    truth(1, "1=1 or 1=2 and 1=2");
    truth(1, "1=2 and 1=2 or 1=1");
    truth(0, "1=2 or 1=1 and 1=2");
    truth(1, "1=2 or 1=1 and 1=1 or 1=2");
    bad(2, "fits:^or 1=1;");
    bad(2, "fits:^and 1=1;");
    bad(2, "fits:1=1 or^;");
    bad(2, "fits:1=1 and^;");
    bad(2, "fits:1=1 or ^and 1=1;");
    bad(2, "fits:1=1 and ^or 1=1;");
    bad(2, "fits:1=1 ^1=1;");
    bad(2, "fits:1=1 ^not 1=1;");
    bad(2, "fits:1=1 ^[1=1];");
  }

  private static void units() {
    truth(0, "not 1=1");
    truth(1, "not not 1=1");
    truth(1, "[1=1]");
    truth(0, "not [1=1]");
    truth(1, "not 1=2 and 1=1");
    truth(0, "not [1=2 or 1=1]");
    truth(1, "not 1=2 or 1=1");
    truth(0, "1<1");
    truth(1, "1<2");
    truth(0, "2<1");
    truth(0, "1>1");
    truth(0, "1>2");
    truth(1, "2>1");
    truth(1, "0=0");
    truth(1, "0-1<0");
    truth(1, "0>0-1");
    bad(2, "fits:not^;");
    bad(2, "fits:[^];");
    bad(2, "fits:[1=1^;");
    bad(2, "fits:[1=1^);");
    bad(2, "fits:1=1^];");
    bad(2, "fits:1^;");
    bad(2, "fits:1 ^1;");
    bad(2, "fits:^=1;");
    bad(2, "fits:1=^;");
    bad(2, "fits:1=1^=1;");
    bad(2, "fits:1<^=1;");
    bad(2, "fits:1<^>1;");
    bad(2, "fits:1^:1;");
    bad(2, "fits:1=^[1];");
    bad(2, "fits:1=^not 1;");
    bad(2, "fits:[1^]=1;");
    bad(2, "fits:[1=1]^=1;");
  }

  private static void sums() {
    sum(1, "1");
    sum(6, "1+2+3");
    sum(-4, "1-2-3");
    sum(2, "1-2+3");
    sum(24, "2*3*4");
    sum(14, "2+3*4");
    sum(10, "2*3+4");
    sum(-10, "2-3*4");
    sum(2, "2*3-4");
    sum(26, "2*3+4*5");
    sum(201, "1" + "+1".repeat(200));
    sum(-199, "1" + "-1".repeat(200));
    sum(7, "7" + "*1".repeat(200));
    bad(2, "likes:^+1;");
    bad(2, "likes:^-1;");
    bad(2, "likes:^*1;");
    bad(2, "likes:1+^;");
    bad(2, "likes:1-^;");
    bad(2, "likes:1*^;");
    bad(2, "likes:1+^+1;");
    bad(2, "likes:1-^-1;");
    bad(2, "likes:1*^*1;");
    bad(2, "likes:1*^-1;");
    bad(2, "likes:1 ^1;");
  }

  private static void atoms() {
    sum(0, "0");
    sum(999, "999");
    sum(-999, "0-999");
    sum(5, "(5)");
    sum(9, "(1+2)*3");
    sum(0, "cross");
    sum(2, "ink");
    sum(0, "who");
    sum(1, "whom");
    sum(3, "mark");
    sum(5, "theirs");
    sum(7, "2+theirs");
    sum(10, "ink*theirs");
    truth(1, "cross=0");
    truth(1, "ink=0");
    truth(1, "many=2");
    truth(1, "999=999");
    truth(1, "(many+1)*2=6");
    bad(2, "likes:(^);");
    bad(2, "likes:(1^;");
    bad(2, "likes:(1^];");
    bad(2, "likes:1^);");
    bad(2, "likes:1 ^(1);");
    bad(2, "likes:(1)^(1);");
    bad(2, "likes:who ^whom;");
    bad(2, "fits:(1^=1);");
    for (String word : new String[] {"society", "person", "engaged", "fits", "likes", "shy", "odds", "or", "and", "it"}) {
      bad(2, "likes:^" + word + ";");
      bad(2, "fits:^" + word + "=1;");
      bad(2, "fits:1=^" + word + ";");
    }
    bad(1, "likes:^1000;");
    bad(1, "fits:1=^1000;");
  }

  private static void six() {
    truth(1, "not not not not not not 1=1");
    truth(0, "not not not not not 1=1");
    truth(1, "[[[[[[1=1]]]]]]");
    truth(1, "((((((1))))))=1");
    truth(1, "1=((((((1))))))");
    truth(0, "not [not [not (1)=1]]");
    truth(1, "[[not not ((1))=1]]");
    sum(-7, "((((((0-7))))))");
    // Beside one another there may be more.
    truth(1, "not not not not not not 1=1 and not not not not not not 1=1 or [[[[[[1=1]]]]]]");
    truth(1, "((((((1))))))=((((((1))))))");
    truth(1, "[1=1]" + " and [1=1]".repeat(12));
    truth(0, "not 1=2 and not [not not not [1=2]]");
    sum(6, "((((((1))))))+((((((2))))))+((((((3))))))");
    sum(8, "(1)+(1)+(1)+(1)+(1)+(1)+(1)+(1)");
    sum(21, "(1+(2+(3+(4+(5+(6))))))");
    good(4, "fits:[[[[[[1=1]]]]]];fits:[[[[[[1=1]]]]]];likes:((((((1))))));");
    bad(4, "fits:not not not not not not ^not 1=1;");
    bad(4, "likes:((((((^(1)))))));");
  }

  private static void rows() {
    for (int row = 0; row < 3; row++) {
      for (int v = 0; v <= 7; v++) {
        int[] told = new int[3];
        told[row] = v;
        int first = v >= 4 ? 1 : 0;
        int second = v == 2 || v == 3 || v == 6 || v == 7 ? 2 : 0;
        int third = v % 2 == 1 ? 4 : 0;
        RingSign x = good(2, "person " + told[0] + " " + told[1] + " " + told[2] + ";");
        Check.due("row " + row + ": " + v, x.person(0, 0), (first + second + third) << 3 * row);
      }
    }
    bad(3, "person ^8 0 0;");
    bad(3, "person 0 ^8 0;");
    bad(3, "person 0 0 ^8;");
    bad(3, "person ^999 7 7;");
    bad(2, "person ^-1 0 0;");
  }

  private static void cells() {
    int[] numbers = {4, 2, 1};
    for (int c = 0; c < 9; c++) {
      int[] told = new int[3];
      told[c / 3] = numbers[c % 3];
      RingSign x = good(2, "person " + told[0] + " " + told[1] + " " + told[2] + ";");
      Check.due("cell " + c, x.person(0, 0), 1 << c);
      Check.due("a stroke takes it away", x.stroke(0, c), 0);
      Check.due("then it is bare", x.person(0, 0), 0);
    }
    RingSign all = good(2, "person 7 7 7;");
    Check.due("all nine", all.person(0, 1), 9);
    Check.due("no cell 9", all.stroke(0, 9), -11);
    Check.due("no cell -1", all.stroke(0, -1), -11);
  }

  private static void flag(String name, int what, int most, int untold) {
    for (int v = 0; v <= most; v++) {
      Check.due(name + " " + v, good(2, "person 0 0 0 " + name + " " + v + ";").person(0, what), v);
    }
    Check.due(name + " untold", good(2, BARE).person(0, what), untold);
    RingSign again = good(2, "person 0 0 0 " + name + " " + (most - 1) + ";");
    Check.due("told again without it", Check.tell(again, "society;" + BARE), 2);
    Check.due(name + " untold", again.person(0, what), untold);
    bad(3, "person 0 0 0 " + name + " ^" + (most + 1) + ";");
    bad(3, "person 0 0 0 " + name + " ^999;");
    bad(2, "person 0 0 0 " + name + " ^-1;");
  }

  private static void shy() {
    flag("shy", 3, 10, 0);
    int[][] due = {{1, 1}, {9, 10}, {4, 5}, {7, 10}, {3, 5}, {1, 2}, {2, 5}, {3, 10}, {1, 5}, {1, 10}, {0, 1}};
    for (int v = 0; v <= 10; v++) {
      RingSign x = good(3, "person 0 0 0 shy " + v + ";" + BARE);
      Check.due("above, shy " + v, x.chance(1, 0), due[v][0]);
      Check.due("below, shy " + v, x.chance(1, 1), due[v][1]);
    }
  }

  private static void laterFlags() {
    RingSign x = good(2, "person 0 0 0 mark 9 shy 10 odds 9 mark 0 shy 0 odds 0;");
    for (int what = 2; what <= 4; what++) Check.due("the later " + what, x.person(0, what), 0);
    RingSign y = good(2, "person 0 0 0 mark 1 mark 2 mark 3 odds 5;");
    Check.due("the last of three", y.person(0, 2), 3);
    Check.due("the other flags stay", y.person(0, 3), 0);
    bad(3, "person 0 0 0 mark ^10 mark 1;");
    bad(3, "person 0 0 0 mark 1 mark ^10;");
  }

  private static void sevenAtMost() {
    StringBuilder seven = new StringBuilder();
    for (int p = 0; p < 7; p++) seven.append("person 0 0 ").append(p).append(" mark ").append(p).append(';');
    RingSign x = good(8, seven.toString());
    Check.due("seven", x.count(0), 7);
    for (int p = 0; p < 7; p++) Check.due("mark of " + p, x.person(p, 2), p);
    Check.due("no 7", x.person(7, 2), -2);
    Check.due("no -1", x.person(-1, 2), -2);
    Check.due("an eighth", Check.tell(x, "society;" + SEVEN + BARE), -34);
    Check.due("all stays", x.person(6, 2), 6);
    good(11, SEVEN + "engaged 0 6;likes:1;fits:1=1;");
  }

  private static void engaged() {
    RingSign x = good(11, SEVEN + "engaged 6 0;engaged 1 5;engaged 4 2;");
    int[] with = {6, 5, 4, -1, 2, 1, 0};
    for (int p = 0; p < 7; p++) Check.due("with whom " + p + " is", x.person(p, 5), with[p]);
    good(6, BARE + BARE + "engaged 0 1;" + BARE + BARE);
    bad(3, "engaged ^0 1;" + BARE + BARE);
    bad(3, BARE + "engaged 0 ^1;" + BARE);
    bad(3, BARE + "engaged ^1 0;" + BARE);
    bad(3, BARE + BARE + "engaged 0 ^0;");
    bad(3, BARE + BARE + "engaged 1 ^1;");
    bad(3, SEVEN + "engaged ^7 0;");
    bad(3, SEVEN + "engaged 6 ^7;");
    bad(3, SEVEN + "engaged 0 1;engaged ^0 2;");
    bad(3, SEVEN + "engaged 0 1;engaged ^1 2;");
    bad(3, SEVEN + "engaged 0 1;engaged 2 ^0;");
    bad(3, SEVEN + "engaged 0 1;engaged 2 ^1;");
    bad(3, SEVEN + "engaged 0 1;engaged ^0 1;");
  }

  private static void engagedWithoutMatching() {
    RingSign x = good(5, BARE + BARE + "engaged 0 1;likes:0;");
    Check.due("0 with 1", x.person(0, 5), 1);
    Check.due("1 with 0", x.person(1, 5), 0);
    Check.due("they don't match", x.person(0, 6), 0);
    Check.due("so it doesn't hold", x.holds(), 0);
    Check.due("two with somebody", x.count(1), 3);
    RingSign y = good(5, "fits:1=2;" + BARE + BARE + "engaged 1 0;");
    Check.due("they don't fit", y.fits(3), 0);
    Check.due("0 with 1", y.person(0, 5), 1);
    RingSign z = good(4, BARE + BARE + "engaged 0 1;");
    Check.due("they match", z.person(0, 6), 2);
    Check.due("0 with 1", z.person(0, 5), 1);
  }

  private static void laterLaws() {
    Check.due("the later fits", good(5, BARE + BARE + "fits:1=1;fits:1=2;").fits(3), 0);
    Check.due("the later fits", good(5, BARE + BARE + "fits:1=2;fits:1=1;").fits(3), 1);
    Check.due("the last of three", good(6, BARE + BARE + "likes:1;likes:2;likes:3;").likes(0, 1), 3);
    RingSign x = good(7, "likes:1;fits:1=1;" + BARE + BARE + "likes:who+2;fits:many=1;");
    Check.due("likes in between", x.likes(0, 1), 2);
    Check.due("fits in between", x.fits(3), 0);
    Check.due("fits in between", x.fits(1), 1);
    // A later law with a fault strikes nothing: all stays.
    Check.due("a later one with a fault", Check.tell(x, "society;" + BARE + BARE + "likes:5;likes:;"), -32);
    Check.due("all stays", x.likes(1, 0), 3);
  }

  private static void asLongAsTheyGoOn() {
    Check.due("numbers end where letters begin", good(2, "person 1 2 3mark 4shy5odds6;").person(0, 4), 6);
    Check.due("words end where digits begin", good(2, "person1 2 3;").person(0, 1), 4);
    bad(2, "person 1 2^;");
    bad(3, "person ^12 3;");
    bad(2, "^per son 0 0 0;");
    bad(2, "^personperson 0 0 0;");
    bad(2, "fits:1=1^orand 1=1;");
    bad(2, "fits:^notnot 1=1;");
    bad(2, "person 0 0 0 ^markshy 1;");
    bad(2, "^engagedto 0 1;");
    truth(1, "1=1or 1=1and 1=1");
    truth(0, "not[1=1]");
    sum(110, "11*10");
    bad(2, "likes:11 ^0;");
    // They end where the text ends, whatever is on the tape behind it.
    RingSign x = new RingSign();
    Check.feed(x, "society;person 0 0 0;likes:whom;");
    Check.due("the first 11 bytes", x.society(11), -32);
    Check.due("per is no word here", x.fault(1), 8);
    Check.feed(x, "society;likes:1234;");
    Check.due("the first 17 bytes: 123 is a number", x.society(17), -32);
    Check.due("behind it the text ends", x.fault(1), 17);
    Check.feed(x, "society;likes:1234;");
    Check.due("the first 18 bytes: 1234 is none", x.society(18), -31);
    Check.due("its place", x.fault(1), 14);
  }

  private static void blanks() {
    RingSign x = new RingSign();
    Check.due("blanks wherever", Check.tell(x, "\n society \n;\n\nperson\n7 0\n0\nmark\n1 ;\n"), 2);
    Check.due("its mark", x.person(0, 2), 1);
    Check.due("no blanks", Check.tell(x, "society;likes:1;"), 2);
    Check.due("blanks alone at the end", Check.tell(x, "society;" + "\n".repeat(892)), 1);
    Check.due("blanks alone at the beginning", Check.tell(x, " ".repeat(892) + "society;"), 1);
    for (int b = 0; b < 256; b++) {
      int got = Check.tell(new RingSign(), "society" + (char) b + ";");
      if (b == 10 || b == 32) Check.due("blank " + b, got, 1);
      else Check.that("no blank: " + b, got < 0);
    }
  }

  private static void words() {
    String[] all = "society person engaged fits likes mark shy odds or and not cross ink many who whom theirs".split(" ");
    for (String word : all) {
      // None of these stands behind society; but for those that begin a line, all of them are faults of kind 2.
      bad(2, "^" + word + "s x;");
      if (word.length() > 3) bad(2, "^" + word.substring(0, word.length() - 1) + " x;");
      bad(2, "^s" + word + " x;");
    }
    for (char c = 'a'; c <= 'z'; c++) {
      bad(2, "^" + c + ";");
      bad(2, "person 0 0 0 ^" + c + ";");
    }
    for (char c = 'A'; c <= 'Z'; c++) bad(1, "^" + c + ";");
    bad(1, "^Person 0 0 0;");
    bad(2, "^perSon 0 0 0;");
    bad(2, "^" + "a".repeat(892));
    bad(1, "person 0 0 0^`");
    bad(1, "person 0 0 0^{");
    bad(1, "person 0 0 0^@");
    bad(1, "person 0 0 0^_");
  }

  private static void digits() {
    sum(7, "7");
    sum(77, "77");
    sum(777, "777");
    sum(7, "07");
    sum(7, "007");
    sum(0, "000");
    Check.due("three digits in a row", good(2, "person 007 000 001 mark 009;").person(0, 0), 7 + 256);
    bad(1, "likes:^7777;");
    bad(1, "likes:^0007;");
    bad(1, "person 0 0 ^0000;");
    bad(1, "likes:1+^" + "1".repeat(880));
    bad(1, "likes:1^/1;");
    bad(1, "person 0 0 0^\u00b2;");
  }

  private static void signs() {
    for (int b = 0; b < 256; b++) {
      RingSign x = new RingSign();
      Check.feed(x, "society;" + (char) b);
      int got = x.society(9);
      boolean blank = b == 10 || b == 32;
      boolean begins = SIGNS.indexOf(b) >= 0 || b >= 'a' && b <= 'z' || b >= '0' && b <= '9';
      Check.due("byte " + b, got, blank ? 1 : begins ? -32 : -31);
      Check.due("its place", x.fault(1), blank ? -1 : 8);
    }
    good(4, "likes:1+2-3*(4);fits:[1=1]or 1<2 or 1>2;likes:1;");
    bad(2, "fits:1<^=2;");
    bad(2, "fits:1=^=2;");
    bad(2, "likes:2*^*2;");
    bad(2, "likes^;:1;");
    bad(2, "likes:^:1;");
  }

  private static void firstFault() {
    bad(3, "person ^8 , 1000 x");
    bad(2, "person 0 0 ^x , 8");
    bad(1, "person 0 ^, 8 x");
    bad(4, "likes:((((((^( , 1000");
    bad(4, SEVEN + "^person , 8");
    bad(2, "likes:1;^x;,");
    bad(1, "likes:1;^,;x;");
    bad(3, BARE + "engaged 0 ^0 , x");
    bad(1, "person 0 0 0 mark ^? mark 10");
    bad(3, "person 0 0 0 mark ^10 mark ?");
    Check.fault(2, "^x,");
    Check.fault(1, "^,x");
  }

  private static void leastKind() {
    // 1 ahead of 2, 3 and 4: what is no token can't stand there either.
    bad(1, "^1000;");
    bad(1, "person ^8888 0 0;");
    bad(1, "person 0 0 0 ^1000;");
    bad(1, BARE + BARE + "engaged 0 ^1111;");
    bad(1, "likes:((((((^{1");
    // 2 ahead of 3: an N that can't stand there has no bounds.
    bad(2, "person 0 0 0 ^999;");
    bad(2, BARE + BARE + "engaged 0 1 ^999;");
    bad(2, BARE + BARE + "engaged 0 1 ^0;");
    bad(2, "^999;");
    // 2 ahead of 4.
    bad(2, SEVEN.substring(0, SEVEN.length() - 1) + " ^person 0 0 0;");
    bad(2, SEVEN + "likes:^person 0 0 0;");
    bad(2, "likes:((((((^[1]))))));");
    bad(2, "likes:((((((^not 1))))));");
    bad(2, "fits:((((((^not 1))))))=1;");
    bad(2, "fits:((((((1^(1)))))))=1;");
    bad(2, "fits:not not not not not not 1^[1=1];");
    bad(2, "fits:not not not not not not 1=1 ^not 1=1;");
  }

  private static void noToken() {
    Check.fault(1, "^,");
    Check.fault(1, "society^!;");
    bad(1, "^\t");
    bad(1, "^\r");
    bad(1, "^\u0000");
    bad(1, "^\u00ff");
    bad(1, "^\u0080");
    bad(1, "likes:1^.5;");
    bad(1, "person 0 0 0 mark^#1;");
    bad(1, "person ^0000 0 0;");
    bad(1, "person 0 ^00000 0;");
    bad(1, "person 0 0^\t;");
    bad(1, "^" + "9".repeat(892));
    bad(1, "likes:(^1234);");
    bad(1, "person 0 0 0;^\"");
  }

  private static void theEnd() {
    Check.fault(2, "^");
    Check.fault(2, "  \n^");
    Check.fault(2, "society^");
    Check.fault(2, "society  ^");
    bad(2, "person^");
    bad(2, "person ^");
    bad(2, "person 0 0^");
    bad(2, "person 0 0 0^");
    bad(2, "person 0 0 0 mark^");
    bad(2, "person 0 0 0 mark 1^");
    bad(2, BARE + BARE + "engaged 0^");
    bad(2, BARE + BARE + "engaged 0 1^");
    bad(2, "fits^");
    bad(2, "fits:^");
    bad(2, "fits:1^");
    bad(2, "fits:1=^");
    bad(2, "fits:1=1^");
    bad(2, "fits:[1=1^");
    bad(2, "fits:1=1 or^");
    bad(2, "likes:(^");
    bad(2, "likes:((((((1^");
    bad(2, "likes:1+ \n ^");
    RingSign x = new RingSign();
    Check.feed(x, "society;likes:1;");
    Check.due("the end of the first 14 bytes", x.society(14), -32);
    Check.due("their length", x.fault(1), 14);
    Check.feed(x, "society;" + " ".repeat(891) + "x");
    Check.due("900 bytes", x.society(900), -32);
    Check.due("the last one", x.fault(1), 899);
    Check.feed(x, "society" + " ".repeat(893));
    Check.due("900 bytes", x.society(900), -32);
    Check.due("behind the last one", x.fault(1), 900);
  }

  private static void societyOnce() {
    Check.fault(2, "^person 0 0 0;");
    Check.fault(2, "^likes:1;society;");
    Check.fault(2, "^;society;");
    Check.fault(2, "^1 society;");
    Check.fault(2, "society ^society;");
    bad(2, "^society;");
    bad(2, BARE + "^society;");
    bad(2, "person 0 0 0 ^society;");
    bad(2, "likes:1;^society;");
  }

  private static void otherLaw() {
    for (String word : new String[] {"who", "whom", "mark", "theirs"}) {
      bad(2, "fits:^" + word + "=1;");
      bad(2, "fits:1=^" + word + ";");
      bad(2, "fits:[1+(2*^" + word + ")=1];");
      good(2, "likes:1+(2*" + word + ");");
      bad(2, "likes:1;fits:^" + word + "=1;");
    }
    bad(2, "likes:^many;");
    bad(2, "likes:1+(2*^many);");
    bad(2, "fits:many=1;likes:^many;");
    good(2, "fits:1+(2*many)=1;");
    good(3, "fits:cross+ink=1;likes:cross+ink;");
  }

  private static void outOfBounds() {
    bad(3, "person ^8 7 7;");
    bad(3, "person 7 ^8 7;");
    bad(3, "person 7 7 ^8;");
    bad(3, "person ^008 7 7;");
    bad(3, "person 7 7 7 mark ^10;");
    bad(3, "person 7 7 7 shy ^11;");
    bad(3, "person 7 7 7 odds ^10;");
    bad(3, "person 7 7 7 mark 9 shy 10 odds ^010;");
    good(2, "person 7 7 7 mark 9 shy 10 odds 9;");
    good(2, "person 0 0 0 mark 0 shy 0 odds 0;");
    // In a law an N has no other bounds than its digits.
    good(3, "fits:999=000;likes:999;");
  }

  private static void notToBeEngaged() {
    bad(3, "engaged ^0 0;");
    bad(3, BARE + "engaged ^1 0;");
    bad(3, BARE + "engaged 0 ^1;");
    bad(3, BARE + "engaged 0 ^0;");
    bad(3, SEVEN + "engaged ^7 0;");
    bad(3, SEVEN + "engaged 0 ^999;");
    bad(3, SEVEN + "engaged 6 ^6;");
    bad(3, SEVEN + "engaged 3 ^003;");
    bad(3, SEVEN + "engaged 0 6;engaged ^6 5;");
    bad(3, SEVEN + "engaged 0 6;engaged 5 ^6;");
    bad(3, SEVEN + "engaged 0 6;engaged ^0 5;");
    bad(3, SEVEN + "engaged 0 6;engaged 5 ^0;");
    good(10, SEVEN + "engaged 0 6;engaged 5 1;");
  }

  private static void eighth() {
    bad(4, SEVEN + "^person 0 0 0;");
    bad(4, SEVEN + "^person");
    bad(4, SEVEN + "^person 9 9 9;");
    bad(4, SEVEN + "engaged 0 1;likes:1;^person 0 0 0;");
    bad(1, SEVEN + "^Person 0 0 0;");
    bad(2, SEVEN + "^persons 0 0 0;");
    good(9, SEVEN + "likes:1;");
  }

  private static void seventh() {
    String[] six = {"not not not not not not ", "[[[[[[", "not [not [not [", "[not not [[not "};
    for (String open : six) {
      bad(4, "fits:" + open + "^not 1=1");
      bad(4, "fits:" + open + "^[1=1");
      bad(4, "fits:" + open + "^(1)=1");
      bad(4, "fits:" + open + "1=^(1)");
      bad(4, "fits:" + open + "1+1*^(1)=1");
      if (open.endsWith("[")) bad(4, "fits:" + open + "1=1 and 1=^(1)");
    }
    bad(4, "fits:not not not ((( ^(1))))=1");
    bad(4, "fits:1=1 or [[[(((1+^(1))))=1]]];");
    bad(4, "fits:not [not [not [1=1 and ^not 1=1]]];");
    bad(4, "likes:((((((^(1)))))));");
    bad(4, "likes:1+(((((2*(3+^(1)))))));");
    bad(4, "likes:((((((1))))))+((((((^(1)))))));");
    // Six are closed: a seventh beside them is none within them.
    good(2, "fits:[not [not [not 1=1]]] and not (1)=1;");
    good(2, "likes:((((((1))))))*(1);");
  }
}
