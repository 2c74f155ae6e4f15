/** Promises 33 and 34: which mark one has by who is with whom. */
public final class MarksTest {
  public static void main(String[] args) {
    codes();
    marks();
    ask();
    Check.end();
  }

  private static void both(String name, RingSign x, int tray, int p, int want) {
    Check.due("marks: " + name, x.marks(tray, p), want);
    Check.due("ask: " + name, x.ask(tray, p), want);
  }

  private static void codes() {
    RingSign x = Check.of("society;person 0 0 0;person 0 0 0;person 0 0 0;");
    both("no tray", x, 4, 0, -2);
    both("no tray", x, -1, 0, -2);
    both("no such one, ahead of missing", x, 0, 3, -2);
    both("no such one", x, 0, -1, -2);
    both("missing", x, 0, 0, -6);
    Check.tray(x, 0, 0, -1, -1);
    both("two numbers", x, 0, 0, -4);
    Check.tray(x, 0, 0, -1, -1, -1, -1);
    both("four numbers", x, 0, 0, -4);
    Check.tray(x, 0, 0, -1, -1, 3);
    both("no such one in it", x, 0, 0, -3);
    Check.tray(x, 0, 0, -1, -1, -2);
    both("no such one in it", x, 0, 0, -3);
    Check.tray(x, 0, 3, -1, -1, 1L << 32);
    both("a great one", x, 0, 0, -3);
    Check.tray(x, 0, 0, -1, 1, -1);
    both("with itself", x, 0, 0, -3);
    Check.tray(x, 0, 0, 1, -1, -1);
    both("not both", x, 0, 0, -3);
    Check.tray(x, 0, 0, 3, -1, -1);
    both("the first number that is nobody's", x, 0, 0, -3);
    Check.tray(x, 0, 0, -1, 0, -1);
    both("not both", x, 0, 0, -3);
    Check.tray(x, 0, 0, -1, -1, 0);
    both("not both", x, 0, 0, -3);
    Check.tray(x, 0, 0, 1, 2, 0);
    both("round and round", x, 0, 0, -3);
    Check.tray(x, 0, 0, 1, 0, -1);
    Check.due("any mark", x.marks(0, 0), 1023);
    Check.due("ask: all alike", x.ask(0, 0), 1);
    Check.due("ask: all alike", x.ask(0, 1), 0);
    Check.tray(x, 0, 0, -1, 2, 1);
    Check.due("0 and 1 break it", x.marks(0, 0), 0);
    Check.due("ask: no marks", x.ask(0, 0), -1);
  }

  private static void marks() {
    RingSign x = Check.of("society;person 0 0 0 mark 3;person 0 0 0 mark 4;likes : mark + theirs - 9;");
    Check.tray(x, 0, 1, 1, 0);
    Check.due("both together: 6 to 9", x.marks(0, 0), 960);
    Check.due("both together: 7 to 9", x.marks(0, 1), 896);
    Check.due("the mark is as it was", x.person(0, 2), 3);
    x.mark(1, 1);
    Check.due("one mark alone", x.marks(0, 0), 512);
    Check.due("ask: one mark alone", x.ask(0, 0), 1);
    x.undo(1);
    Check.tray(x, 0, 1, -1, -1);
    Check.due("both alone: 0 to 5", x.marks(0, 0), 63);
    Check.due("nothing to undo", x.count(5), 0);
    Check.due("they don't match still", x.person(0, 6), 0);
    RingSign one = Check.of("society;person 0 0 0;");
    Check.tray(one, 0, 1, -1);
    Check.due("one alone", one.marks(0, 0), 1023);
    Check.due("ask: nobody else", one.ask(0, 0), -1);
    RingSign y = Check.of("society;person 7 7 7;person 7 7 7;fits : cross = 0;");
    Check.tray(y, 0, 1, 1, 0);
    Check.due("they don't fit", y.marks(0, 0), 0);
  }

  private static void ask() {
    // The others like nobody, so any mark of 0 goes; it would by marks from 3, 5, 7 on.
    RingSign x = Check.of("society;person 0 0 0;person 0 0 0;person 0 0 0;person 0 0 0;likes : mark - 2 * whom;");
    Check.tray(x, 0, 1, -1, -1, -1, -1);
    Check.due("marks", x.marks(0, 0), 1023);
    Check.due("five to five", x.ask(0, 0), 2);
    Check.due("the mark is as it was", x.person(0, 2), 0);
    Check.due("nothing to undo", x.count(5), 0);
    // Of 1: it would be with 0 by marks from 1 on, with 2 from 5 on, with 3 from 7 on.
    Check.due("of 1", x.ask(0, 1), 2);
    // It would from 5 on with 1, from 6 on with 2: by mark 4 it likes 1 by just 0, and that is not enough.
    RingSign y = Check.of("society;person 0 0 0;person 0 0 0 mark 4;person 0 0 0 mark 5;likes : mark - theirs - who * 20;");
    Check.tray(y, 0, 1, -1, -1, -1);
    Check.due("marks", y.marks(0, 0), 1023);
    Check.due("five to five", y.ask(0, 0), 1);
    RingSign z = Check.of("society;person 0 0 0;person 0 0 0;person 0 0 0;likes : mark * (2 - whom) - who * 9;");
    Check.tray(z, 0, 1, -1, -1, -1);
    // With 1 by all but 0 (one to nine), with 2 by none.
    Check.due("mark 0 counts", z.ask(0, 0), 1);
    // With 1 being liked by 0 from 3 on, and liking it back from 1 on: together by marks 3 to 9.
    x.mark(1, 1);
    Check.tray(x, 0, 1, 1, 0, -1, -1);
    Check.due("marks", x.marks(0, 0), 1016);
    // Of 3 to 9 by all with 1, by 5 to 9 with 2 (5 to 2), by 7 to 9 with 3 (3 to 4).
    Check.due("three to four", x.ask(0, 0), 3);
  }
}
