/**
 * Refused calls, by their codes: each is made on an object of its own, and behind it all that can be asked, undone,
 * restored and read from the tape and the trays is as with a twin to which the call was not made.
 */
public final class RefusedTest {
  private interface Call { long on(RingSign x); }

  private interface Maker { RingSign make(); }

  private static final int BLANK = 0x20202020;
  private static final int LOW = Integer.MIN_VALUE;
  private static final int HIGH = Integer.MAX_VALUE;
  /** Five people; 0 is with 3 at first, and neither matches 4, who likes nobody. */
  private static final String TEXT = "society;person 7 7 7 mark 2 shy 3 odds 2;person 7 7 7 mark 3;person 0 0 0 mark 1 odds 0;"
      + "person 0 0 0 shy 10;person 1 0 0 mark 4;engaged 0 3;fits:cross=0;likes:(4-who)*(9-(whom-mark)*(whom-mark));";

  public static void main(String[] args) {
    Doc.part("Refused calls answer", "```")
        .says("Refused calls answer by a code and change nothing:", RefusedTest::twinsAreTold)
        .says("-2 there is none such;", RefusedTest::noneSuch)
        .says("-3 a number can't be;", RefusedTest::noNumber)
        .says("-4 too many;", RefusedTest::tooMany)
        .says("-5 it can't be now;", RefusedTest::notNow)
        .says("-6 a TRAY is MISSING;", RefusedTest::missing)
        .says("-7 it has no such number;", RefusedTest::noSuchNumber)
        .says("-11 to -14 why not (1 to 4);", RefusedTest::whyNot)
        .says("-30 less the FAULT: a text.", RefusedTest::texts)
        .says("(Of several that which the call tells first;", RefusedTest::ofSeveral)
        .says("all these ahead of NONE.)", RefusedTest::aheadOfNone)
        .says("likes(): -99000002.", RefusedTest::likes)
        .end();
    Check.end();
  }

  /** All that there is: people, three calls to undo, an image, a fault, a tape, three trays and one that is missing. */
  private static RingSign rich() {
    RingSign x = Check.of(TEXT);
    x.image(0);
    x.stroke(4, 3);
    x.mark(4, 9);
    x.engage(1, 2);
    Check.tray(x, 0, 1, 200, 302, 100, 13);
    Check.tray(x, 1, 0, 0, 2);
    Check.tray(x, 2, 3, -1, 3, -1, 1, -1);
    Check.tell(x, "society;person 8");
    Check.feed(x, "society;person 5 5 5;");
    return x;
  }

  /** The same with ten calls to undo, and no place left on the tape. */
  private static RingSign full() {
    RingSign x = rich();
    for (int c = 0; c < 8; c++) x.stroke(3, c);
    for (int taped = 40; taped < 900; taped += 20) x.feed(BLANK, BLANK, BLANK, BLANK, BLANK);
    return x;
  }

  private static void ask(StringBuilder b, long answer) { b.append(answer).append(' '); }

  private static void people(StringBuilder b, RingSign x) {
    int people = x.count(0);
    ask(b, people);
    ask(b, x.count(5));
    ask(b, x.count(7));
    for (int p = 0; p < people; p++) for (int what = 0; what <= 6; what++) ask(b, x.person(p, what));
  }

  /** Some 400 calls: with those ahead of it, an object answers no more than 512. */
  private static String probe(RingSign x) {
    StringBuilder b = new StringBuilder();
    for (int what = 0; what <= 7; what++) ask(b, x.count(what));
    ask(b, x.fault(0));
    ask(b, x.fault(1));
    people(b, x);
    for (int p = 0; p < 5; p++) {
      ask(b, x.likes(p, 0));
      ask(b, x.crosses(0, p));
      ask(b, x.chance(p, 0));
    }
    ask(b, x.holds());
    ask(b, x.pairings());
    ask(b, x.largest());
    for (int tray = 0; tray < 4; tray++) {
      b.append("| tray ");
      for (int what = 0; what <= 3; what++) ask(b, x.judge(tray, what));
      ask(b, x.blot(tray));
      ask(b, x.marks(tray, 0));
    }
    for (int i = x.count(5); i > 0; i--) {
      b.append("| undone ");
      ask(b, x.undo(1));
      ask(b, x.count(1));
      ask(b, x.count(3));
      for (int p = 3; p < 5; p++) ask(b, x.person(p, 0));
      ask(b, x.person(4, 2));
      ask(b, x.person(1, 5));
    }
    for (int i = 0; i < 2; i++) {
      b.append("| image ");
      ask(b, x.restore(i));
      people(b, x);
    }
    probeTrays(b, x);
    b.append("| tape ");
    ask(b, x.society(x.count(6)));
    ask(b, x.fault(0));
    ask(b, x.fault(1));
    people(b, x);
    return b.toString();
  }

  /** What each tray's deeds do, and its places and its sort. */
  private static void probeTrays(StringBuilder b, RingSign x) {
    for (int tray = 0; tray < 4; tray++) {
      b.append("| done ");
      ask(b, x.restore(0));
      ask(b, x.perform(tray));
      ask(b, x.count(1));
      for (int p = 0; p < 5; p++) for (int what = 0; what <= 2; what += 2) ask(b, x.person(p, what));
      for (int i = 0; i < 6; i++) ask(b, x.write(tray, i, 0x0123456789abcdefL));
    }
  }

  private static void twin(Maker maker, long code, String name, Call call) {
    RingSign x = maker.make();
    Check.due(name, call.on(x), code);
    String got = probe(x);
    String want = probe(maker.make());
    if (!got.equals(want)) System.out.println(name + " changed\n  " + want + "\nto\n  " + got);
    Check.that(name + " changes nothing", got.equals(want));
  }

  private static void no(long code, String name, Call call) { twin(RefusedTest::rich, code, name, call); }

  private static void noOfNew(long code, String name, Call call) { twin(RingSign::new, code, "new object: " + name, call); }

  private static void noOfFull(long code, String name, Call call) { twin(RefusedTest::full, code, "full: " + name, call); }

  /** The probe tells each change that a call can make. */
  private static void twinsAreTold() {
    Call[] calls = {x -> x.stroke(0, 0), x -> x.mark(0, 9), x -> x.part(0), x -> x.undo(1), x -> x.feed(BLANK, BLANK, BLANK, BLANK, BLANK),
        x -> x.society(0), x -> x.society(21), x -> x.image(0), x -> x.image(1), x -> x.restore(0), x -> x.perform(0), x -> x.year(3, 40),
        x -> x.numbers(0, 1, 4), x -> x.numbers(3, 0, 0), x -> x.numbers(1, 1, 2), x -> x.numbers(1, 0, 3), x -> x.write(0, 0, 201),
        x -> x.write(1, 1, 3), x -> x.write(2, 4, 0), x -> x.lists(2, 0), x -> x.mark(4, 9)};
    String want = probe(rich());
    Check.that("the probe is the same twice", want.equals(probe(rich())));
    for (int i = 0; i < calls.length; i++) {
      RingSign x = rich();
      long answer = calls[i].on(x);
      Check.that("call " + i + " is not refused, or has a fault", answer >= 0 || answer == -32);
      Check.that("the probe tells call " + i, !want.equals(probe(x)));
    }
    // Calls that only ask are no changes.
    Call[] asking = {x -> x.judge(0, 0), x -> x.marks(2, 0), x -> x.ask(2, 1), x -> x.change(0, 1, 1), x -> x.chance(0, 0), x -> x.wins(0),
        x -> x.blot(1), x -> x.monogram(15, 10), x -> x.misfits(), x -> x.can(0), x -> x.fault(0), x -> x.count(6), x -> x.look(1)};
    for (int i = 0; i < asking.length; i++) {
      RingSign x = rich();
      asking[i].on(x);
      Check.that("asking " + i + " changes nothing", want.equals(probe(x)));
    }
  }

  private static void noneSuch() {
    for (int p : new int[] {5, 6, 7, -1, LOW, HIGH}) {
      no(-2, "person(" + p + ", 0)", x -> x.person(p, 0));
      no(-2, "crosses(" + p + ", 0)", x -> x.crosses(p, 0));
      no(-2, "crosses(0, " + p + ")", x -> x.crosses(0, p));
      no(-2, "partner(0, " + p + ")", x -> x.partner(0, p));
      no(-2, "can(" + p + ")", x -> x.can(p));
      no(-2, "change(" + p + ", 0, 0)", x -> x.change(p, 0, 0));
      no(-2, "change(0, " + p + ", 0)", x -> x.change(0, p, 0));
      no(-2, "likely(1, " + p + ", 0)", x -> x.likely(1, p, 0));
      no(-2, "marks(2, " + p + ")", x -> x.marks(2, p));
      no(-2, "ask(2, " + p + ")", x -> x.ask(2, p));
      no(-2, "chance(" + p + ", 0)", x -> x.chance(p, 0));
      no(-2, "likeliest(" + p + ")", x -> x.likeliest(p));
      no(-2, "monogram(1, 10 + " + p + ")", x -> x.monogram(1, 10 + p));
    }
    for (int tray : new int[] {4, -1, LOW, HIGH}) {
      no(-2, "judge(" + tray + ", 0)", x -> x.judge(tray, 0));
      no(-2, "perform(" + tray + ")", x -> x.perform(tray));
      no(-2, "blot(" + tray + ")", x -> x.blot(tray));
      no(-2, "likely(" + tray + ", 0, 0)", x -> x.likely(tray, 0, 0));
      no(-2, "look(" + tray + ")", x -> x.look(tray));
      no(-2, "marks(" + tray + ", 0)", x -> x.marks(tray, 0));
      no(-2, "ask(" + tray + ", 0)", x -> x.ask(tray, 0));
      no(-2, "numbers(" + tray + ", 0, 1)", x -> x.numbers(tray, 0, 1));
      no(-2, "numbers(0, " + tray + ", 1)", x -> x.numbers(0, tray, 1));
      no(-2, "write(" + tray + ", 0, 1)", x -> x.write(tray, 0, 1));
      no(-2, "lists(" + tray + ", 0)", x -> x.lists(tray, 0));
    }
    for (int i : new int[] {2, -1, LOW, HIGH}) {
      no(-2, "image(" + i + ")", x -> x.image(i));
      no(-2, "restore(" + i + ")", x -> x.restore(i));
      no(-2, "change(0, 1, " + i + ")", x -> x.change(0, 1, i));
      no(-2, "likely(1, 0, " + i + ")", x -> x.likely(1, 0, i));
      no(-2, "chance(0, " + i + ")", x -> x.chance(0, i));
    }
    for (int what : new int[] {7, -1, LOW, HIGH}) {
      no(-2, "person(0, " + what + ")", x -> x.person(0, what));
      no(-2, "judge(0, " + what + ")", x -> x.judge(0, what));
      no(-2, "monogram(1, " + what + ")", x -> x.monogram(1, what));
    }
    no(-2, "crosses(1, 1)", x -> x.crosses(1, 1));
    no(-2, "change(1, 1, 0)", x -> x.change(1, 1, 0));
    noOfNew(-2, "person(0, 0)", x -> x.person(0, 0));
    noOfNew(-2, "crosses(0, 1)", x -> x.crosses(0, 1));
    noOfNew(-2, "partner(0, 0)", x -> x.partner(0, 0));
    noOfNew(-2, "can(0)", x -> x.can(0));
    noOfNew(-2, "change(0, 1, 0)", x -> x.change(0, 1, 0));
    noOfNew(-2, "likely(0, 0, 0)", x -> x.likely(0, 0, 0));
    noOfNew(-2, "marks(0, 0)", x -> x.marks(0, 0));
    noOfNew(-2, "ask(0, 0)", x -> x.ask(0, 0));
    noOfNew(-2, "chance(0, 0)", x -> x.chance(0, 0));
    noOfNew(-2, "likeliest(0)", x -> x.likeliest(0));
    noOfNew(-2, "monogram(0, 10)", x -> x.monogram(0, 10));
  }

  private static void noNumber() {
    for (int n : new int[] {-1, 41, 901, LOW, HIGH}) no(-3, "society(" + n + ")", x -> x.society(n));
    for (int n : new int[] {0, -1, 4, 10, 11, LOW, HIGH}) no(-3, "undo(" + n + ")", x -> x.undo(n));
    for (int n : new int[] {0, -1, 11, LOW, HIGH}) noOfFull(-3, "undo(" + n + ")", x -> x.undo(n));
    for (int n : new int[] {0, -1, 41, LOW, HIGH}) no(-3, "year(3, " + n + ")", x -> x.year(3, n));
    for (int n : new int[] {-1, 41, LOW, HIGH}) for (int tray = 0; tray < 4; tray++) {
      int t = tray;
      no(-3, "numbers(" + t + ", 3, " + n + ")", x -> x.numbers(t, 3, n));
    }
    for (int k : new int[] {-1, LOW}) {
      no(-3, "partner(" + k + ", 0)", x -> x.partner(k, 0));
      no(-3, "lists(2, " + k + ")", x -> x.lists(2, k));
    }
    for (int set : new int[] {32, 33, 63, 128, -1, LOW, HIGH}) {
      no(-3, "monogram(" + set + ", 0)", x -> x.monogram(set, 0));
      no(-3, "fits(" + set + ")", x -> x.fits(set));
      no(-3, "wins(" + set + ")", x -> x.wins(set));
      no(-3, "best(" + set + ")", x -> x.best(set));
      no(-3, "lasts(" + set + ")", x -> x.lasts(set));
    }
    no(-3, "monogram(0, 0)", x -> x.monogram(0, 0));
    no(-3, "monogram(31, 0)", x -> x.monogram(31, 0));
    no(-3, "fits(0)", x -> x.fits(0));
    // Tray 0 tells no blot, tray 1 with five numbers no answers.
    no(-3, "blot(0)", x -> x.blot(0));
    no(-3, "likely(0, 0, 0)", x -> x.likely(0, 0, 0));
    no(-3, "look(0)", x -> x.look(0));
    Maker wrong = () -> {
      RingSign x = rich();
      Check.tray(x, 1, 0, 1, -1, -1, -1, -1);
      return x;
    };
    twin(wrong, -3, "marks(1, 0)", x -> x.marks(1, 0));
    twin(wrong, -3, "ask(1, 4)", x -> x.ask(1, 4));
    noOfNew(-3, "society(1)", x -> x.society(1));
    noOfNew(-3, "undo(1)", x -> x.undo(1));
    noOfNew(-3, "year(1, 41)", x -> x.year(1, 41));
    noOfNew(-3, "fits(0)", x -> x.fits(0));
    noOfNew(-3, "fits(1)", x -> x.fits(1));
    noOfNew(-3, "wins(1)", x -> x.wins(1));
    noOfNew(-3, "monogram(0, 0)", x -> x.monogram(0, 0));
  }

  private static void tooMany() {
    Maker nineteen = () -> {
      RingSign x = rich();
      x.numbers(1, 0, 19);
      x.numbers(0, 0, 0);
      return x;
    };
    for (int tray = 0; tray < 2; tray++) {
      int t = tray;
      twin(nineteen, -4, "blot(" + t + ")", x -> x.blot(t));
      twin(nineteen, -4, "likely(" + t + ", 0, 0)", x -> x.likely(t, 0, 0));
      twin(nineteen, -4, "look(" + t + ")", x -> x.look(t));
      twin(nineteen, -4, "marks(" + t + ", 0)", x -> x.marks(t, 0));
      twin(nineteen, -4, "ask(" + t + ", 0)", x -> x.ask(t, 0));
    }
    no(-4, "marks(0, 0)", x -> x.marks(0, 0));
    no(-4, "ask(1, 0)", x -> x.ask(1, 0));
  }

  private static void notNow() {
    noOfFull(-5, "feed", x -> x.feed(-1, -1, -1, -1, -1));
    noOfFull(-5, "feed", x -> x.feed(BLANK, BLANK, BLANK, BLANK, BLANK));
    no(-5, "restore(1)", x -> x.restore(1));
    noOfNew(-5, "restore(0)", x -> x.restore(0));
    noOfNew(-5, "restore(1)", x -> x.restore(1));
    for (int k : new int[] {2, 232, HIGH}) for (int tray = 0; tray < 3; tray++) {
      int t = tray;
      no(-5, "lists(" + t + ", " + k + ")", x -> x.lists(t, k));
    }
  }

  private static void missing() {
    no(-6, "judge(3, 0)", x -> x.judge(3, 0));
    no(-6, "judge(3, 3)", x -> x.judge(3, 3));
    no(-6, "perform(3)", x -> x.perform(3));
    no(-6, "blot(3)", x -> x.blot(3));
    no(-6, "likely(3, 0, 0)", x -> x.likely(3, 0, 0));
    no(-6, "look(3)", x -> x.look(3));
    no(-6, "marks(3, 0)", x -> x.marks(3, 0));
    no(-6, "ask(3, 0)", x -> x.ask(3, 0));
    no(-6, "write(3, 0, 1)", x -> x.write(3, 0, 1));
    no(-6, "lists(3, 0)", x -> x.lists(3, 0));
    for (int tray = 0; tray < 4; tray++) {
      int t = tray;
      noOfNew(-6, "judge(" + t + ", 0)", x -> x.judge(t, 0));
      noOfNew(-6, "perform(" + t + ")", x -> x.perform(t));
      noOfNew(-6, "blot(" + t + ")", x -> x.blot(t));
      noOfNew(-6, "look(" + t + ")", x -> x.look(t));
      noOfNew(-6, "write(" + t + ", 0, 1)", x -> x.write(t, 0, 1));
      noOfNew(-6, "lists(" + t + ", 0)", x -> x.lists(t, 0));
    }
  }

  private static void noSuchNumber() {
    int[] sizes = {4, 2, 5};
    for (int tray = 0; tray < 3; tray++) {
      int t = tray;
      for (int i : new int[] {sizes[t], sizes[t] + 1, 39, 40, -1, LOW, HIGH}) no(-7, "write(" + t + ", " + i + ", 1)", x -> x.write(t, i, 1));
    }
    Maker none = () -> {
      RingSign x = rich();
      x.numbers(0, 3, 0);
      return x;
    };
    twin(none, -7, "write(0, 0, 1)", x -> x.write(0, 0, 1));
  }

  private static void whyNot() {
    for (int p : new int[] {5, 7, -1, LOW, HIGH}) {
      no(-11, "engage(" + p + ", 0)", x -> x.engage(p, 0));
      no(-11, "engage(0, " + p + ")", x -> x.engage(0, p));
      no(-11, "part(" + p + ")", x -> x.part(p));
      no(-11, "stroke(" + p + ", 0)", x -> x.stroke(p, 0));
      no(-11, "mark(" + p + ", 0)", x -> x.mark(p, 0));
    }
    no(-11, "engage(2, 2)", x -> x.engage(2, 2));
    for (int c : new int[] {9, -1, 32, LOW, HIGH}) no(-11, "stroke(0, " + c + ")", x -> x.stroke(0, c));
    for (int n : new int[] {10, -1, 32, LOW, HIGH}) no(-11, "mark(0, " + n + ")", x -> x.mark(0, n));
    no(-12, "engage(0, 3)", x -> x.engage(0, 3));
    no(-12, "engage(2, 1)", x -> x.engage(2, 1));
    no(-12, "part(4)", x -> x.part(4));
    no(-13, "engage(0, 1)", x -> x.engage(0, 1));
    no(-13, "engage(4, 2)", x -> x.engage(4, 2));
    // 1 is with 2 and likes 3 better, but 3 likes 0 better; 2 likes 1 better than 0.
    no(-14, "engage(1, 3)", x -> x.engage(1, 3));
    no(-14, "engage(0, 2)", x -> x.engage(0, 2));
    noOfFull(-11, "stroke(3, 9)", x -> x.stroke(3, 9));
    noOfFull(-12, "part(4)", x -> x.part(4));
    noOfFull(-13, "engage(3, 4)", x -> x.engage(3, 4));
    noOfNew(-11, "engage(0, 1)", x -> x.engage(0, 1));
    noOfNew(-11, "part(0)", x -> x.part(0));
    noOfNew(-11, "stroke(0, 0)", x -> x.stroke(0, 0));
    noOfNew(-11, "mark(0, 0)", x -> x.mark(0, 0));
  }

  /** Of two texts with the same fault at the same place nothing else is left. */
  private static void texts() {
    String good = "society;person 1 2 3 mark 7;person 4 4 4;engaged 0 1;likes:7;fits:1=2;";
    String bare = "society;" + " ".repeat(good.length() - 8);
    String[] faults = {",", ";", "person 8;", "likes:(((((((", "likes:1"};
    int[] kinds = {1, 2, 3, 4, 2};
    for (int i = 0; i < faults.length; i++) {
      RingSign x = rich();
      RingSign y = rich();
      x.society(40);
      y.society(40);
      x.restore(0);
      y.restore(0);
      x.stroke(2, 2);
      y.stroke(2, 2);
      Check.due("with people ahead of " + faults[i], Check.tell(x, good + faults[i]), -30 - kinds[i]);
      Check.due("with blanks ahead of " + faults[i], Check.tell(y, bare + faults[i]), -30 - kinds[i]);
      Check.due("the same place", y.fault(1), x.fault(1));
      Check.due("the sign stays", x.person(2, 0), 4);
      Check.due("the lines stay", x.count(7), 9);
      Check.that("all stays with fault " + kinds[i], probe(x).equals(probe(y)));
    }
  }

  private static void ofSeveral() {
    no(-2, "judge(3, 4): what ahead of missing", x -> x.judge(3, 4));
    no(-2, "judge(4, 9)", x -> x.judge(4, 9));
    no(-2, "partner(-1, 5): the person ahead of k", x -> x.partner(-1, 5));
    no(-2, "monogram(0, 15): what ahead of the set", x -> x.monogram(0, 15));
    no(-2, "monogram(-1, 1)", x -> x.monogram(-1, 1));
    no(-2, "likely(3, 5, 0): the person ahead of missing", x -> x.likely(3, 5, 0));
    no(-2, "likely(3, 0, 2): what ahead of missing", x -> x.likely(3, 0, 2));
    no(-2, "likely(0, 5, 0): the person ahead of a wrong number", x -> x.likely(0, 5, 0));
    no(-2, "marks(3, 5): the person ahead of missing", x -> x.marks(3, 5));
    no(-2, "marks(0, 5): the person ahead of too many", x -> x.marks(0, 5));
    no(-2, "ask(3, 5): the person ahead of missing", x -> x.ask(3, 5));
    no(-2, "numbers(4, 0, 41): the tray ahead of n", x -> x.numbers(4, 0, 41));
    no(-2, "numbers(0, 4, -1): the sort ahead of n", x -> x.numbers(0, 4, -1));
    no(-2, "write(4, 40, 1): the tray ahead of the place", x -> x.write(4, 40, 1));
    no(-6, "write(3, 40, 1): missing ahead of the place", x -> x.write(3, 40, 1));
    no(-2, "lists(4, -1): the tray ahead of k", x -> x.lists(4, -1));
    no(-6, "lists(3, -1): missing ahead of k", x -> x.lists(3, -1));
    no(-6, "lists(3, 99): missing ahead of not so many", x -> x.lists(3, 99));
    no(-2, "restore(2): ahead of none was made", x -> x.restore(2));
    no(-12, "engage(0, 3): with each other ahead of anything else", x -> x.engage(0, 3));
    // 4 likes nobody, and 0 likes 3 better: 3 ahead of 4.
    no(-13, "engage(0, 4)", x -> x.engage(0, 4));
    Maker nineteen = () -> {
      RingSign x = rich();
      x.numbers(0, 0, 19);
      for (int i = 0; i < 19; i++) x.write(0, i, 99);
      return x;
    };
    twin(nineteen, -4, "blot(0): too many ahead of a wrong number", x -> x.blot(0));
    twin(nineteen, -4, "likely(0, 0, 0)", x -> x.likely(0, 0, 0));
    twin(nineteen, -4, "look(0)", x -> x.look(0));
    twin(nineteen, -4, "marks(0, 0)", x -> x.marks(0, 0));
    twin(nineteen, -4, "ask(0, 0)", x -> x.ask(0, 0));
    noOfNew(-2, "marks(0, 0): the person ahead of missing", x -> x.marks(0, 0));
  }

  private static void aheadOfNone() {
    no(-2, "partner(9, 5)", x -> x.partner(9, 5));
    no(-3, "partner(-1, 4)", x -> x.partner(-1, 4));
    no(-3, "monogram(32, 10)", x -> x.monogram(32, 10));
    no(-3, "monogram(0, 10)", x -> x.monogram(0, 10));
    no(-3, "best(63)", x -> x.best(63));
    no(-2, "likeliest(5)", x -> x.likeliest(5));
    Maker never = () -> Check.of("society;person 0 0 0 odds 0;person 0 0 0 odds 0;fits:1=2;");
    twin(never, -2, "change(0, 1, 2)", x -> x.change(0, 1, 2));
    twin(never, -2, "change(0, 2, 0)", x -> x.change(0, 2, 0));
    twin(never, -1, "change(0, 1, 0), which is NONE", x -> x.change(0, 1, 0));
    Maker alone = () -> {
      RingSign x = Check.of("society;person 0 0 0 odds 0;");
      Check.tray(x, 0, 0, 0);
      Check.tray(x, 1, 0, 0, 1, 18);
      Check.tray(x, 2, 0, -1);
      return x;
    };
    twin(alone, -1, "likely(0, 0, 0), which is NONE", x -> x.likely(0, 0, 0));
    twin(alone, -2, "likely(0, 1, 0)", x -> x.likely(0, 1, 0));
    twin(alone, -2, "likely(0, 0, 2)", x -> x.likely(0, 0, 2));
    twin(alone, -3, "likely(1, 0, 0)", x -> x.likely(1, 0, 0));
    twin(alone, -3, "look(1)", x -> x.look(1));
    twin(alone, -6, "look(3)", x -> x.look(3));
    twin(alone, -3, "ask(0, 0)", x -> x.ask(0, 0));
    twin(alone, -4, "ask(1, 0)", x -> x.ask(1, 0));
    twin(alone, -1, "ask(2, 0), which is NONE", x -> x.ask(2, 0));
    twin(alone, -2, "ask(2, 1)", x -> x.ask(2, 1));
    twin(alone, -6, "ask(3, 0)", x -> x.ask(3, 0));
  }

  private static void likes() {
    for (int p : new int[] {5, 6, 7, -1, LOW, HIGH}) {
      no(-99000002, "likes(" + p + ", 0)", x -> x.likes(p, 0));
      no(-99000002, "likes(0, " + p + ")", x -> x.likes(0, p));
      no(-99000002, "likes(" + p + ", " + p + ")", x -> x.likes(p, p));
    }
    no(-99000002, "likes(2, 2)", x -> x.likes(2, 2));
    noOfNew(-99000002, "likes(0, 1)", x -> x.likes(0, 1));
  }
}
