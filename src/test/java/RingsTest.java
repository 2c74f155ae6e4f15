/** Promises 25 to 29: monograms, sets that fit, changes. */
public final class RingsTest {
  private static final String FULL = "person 7 7 7;";

  public static void main(String[] args) {
    monograms();
    fitting();
    largest();
    misfits();
    changes();
    Check.end();
  }

  private static void monograms() {
    RingSign x = Check.of("society;" + FULL + FULL + FULL + FULL + "person 0 0 0;person 7 0 0;");
    Check.due("one", x.monogram(4, 0), 0);
    Check.due("one lies first", x.monogram(4, 12), 0);
    Check.due("two in corners", x.monogram(10, 0), 1);
    Check.due("the lesser one first", x.monogram(10, 11), 0);
    Check.due("the other one last", x.monogram(10, 13), 8);
    Check.due("not in the set", x.monogram(10, 10), -1);
    Check.due("not in the set", x.monogram(10, 15), -1);
    Check.due("three", x.monogram(7, 0), 7);
    Check.due("four in all corners", x.monogram(15, 0), 14);
    int[] corners = {0, 2, 6, 8};
    for (int p = 0; p < 4; p++) Check.due("corner of " + p, x.monogram(15, 10 + p), corners[p]);
    Check.due("a bare one lies first", x.monogram(17, 14), 0);
    Check.due("beside a bare one", x.monogram(17, 10), 0);
    // A line of row 0 comes no lower than row 2, so the full one goes a row down.
    Check.due("a line and a full one", x.monogram(33, 0), 0);
    Check.due("the full one", x.monogram(33, 10), 3);
    Check.due("the line", x.monogram(33, 15), 0);
    Check.due("what", x.monogram(3, 1), -2);
    Check.due("what", x.monogram(3, 9), -2);
    Check.due("what", x.monogram(3, 16), -2);
    Check.due("what", x.monogram(3, -1), -2);
    Check.due("what ahead of the set", x.monogram(0, 1), -2);
    Check.due("what", x.monogram(3, Integer.MIN_VALUE), -2);
    Check.due("nobody", x.monogram(0, 0), -3);
    Check.due("five", x.monogram(31, 0), -3);
    Check.due("others", x.monogram(64, 0), -3);
    Check.due("others", x.monogram(65, 10), -3);
    Check.due("others", x.monogram(-1, 0), -3);
    Check.due("others", x.monogram(Integer.MIN_VALUE, 0), -3);
    x.stroke(0, 0);
    // Without its first cell 0 lies in the last corner, and crosses there once less with each.
    Check.due("after a stroke", x.monogram(15, 0), 11);
    int[] after = {8, 0, 2, 6};
    for (int p = 0; p < 4; p++) Check.due("corner of " + p, x.monogram(15, 10 + p), after[p]);
    Check.due("two after a stroke", x.monogram(3, 0), 0);
    x.undo(1);
    Check.due("after undoing", x.monogram(15, 0), 14);
    Check.due("after undoing", x.monogram(15, 10), 0);
  }

  private static void fitting() {
    RingSign x = Check.of("society;" + FULL + FULL + FULL + FULL + FULL);
    Check.due("one", x.fits(1), 1);
    Check.due("two", x.fits(3), 1);
    Check.due("three", x.fits(7), 0);
    Check.due("five never do", x.fits(31), 0);
    Check.due("nobody", x.fits(0), -3);
    Check.due("others", x.fits(32), -3);
    Check.due("others", x.fits(-1), -3);
    RingSign two = Check.of("society;person 7 2 7;person 4 7 7;person 3 7 7;");
    Check.due("two crossings", two.monogram(7, 0), 2);
    Check.due("below 2 without a law", two.fits(7), 0);
    RingSign y = Check.of("society;" + FULL + FULL + FULL + FULL + FULL + "fits : 1 = 1;");
    Check.due("four by the law", y.fits(30), 1);
    Check.due("five, though the law holds", y.fits(31), 0);
    RingSign z = Check.of("society;person 7 0 0;person 1 1 1;person 0 0 0;fits : ink = many * 3;");
    Check.due("ink of all", z.fits(3), 1);
    Check.due("ink of all", z.fits(5), 0);
    Check.due("ink of one", z.fits(2), 1);
    z.stroke(2, 0);
    z.stroke(2, 1);
    z.stroke(2, 2);
    Check.due("after strokes", z.fits(7), 1);
    z.undo(1);
    Check.due("after undoing", z.fits(7), 0);
  }

  private static void largest() {
    Check.due("nobody", new RingSign().largest(), 0);
    Check.due("two", Check.of("society;" + FULL + FULL + FULL).largest(), 3);
    Check.due("four at most", Check.of("society;person 0 0 0;person 0 0 0;person 0 0 0;person 0 0 0;person 0 0 0;").largest(), 15);
    Check.due("none", Check.of("society;" + FULL + "fits : 1 = 2;").largest(), 0);
    Check.due("the first alone", Check.of("society;person 0 0 0;person 4 0 0;fits : ink = 0;").largest(), 1);
    Check.due("all three", Check.of("society;person 0 0 0;person 0 0 0;person 0 0 0;").largest(), 7);
    Check.due("the least as bits", Check.of("society;" + FULL + "person 1 0 0;person 1 0 0;person 1 0 0;fits : ink < 4;").largest(), 14);
    Check.due("one", Check.of("society;" + FULL + FULL + "person 4 0 0;fits : many = 1 and ink < 9;").largest(), 4);
    Check.due("a law that asks for three", Check.of("society;" + FULL + FULL + FULL + FULL + "fits : many = 3;").largest(), 7);
  }

  private static void misfits() {
    Check.due("nobody", new RingSign().misfits(), 0);
    Check.due("three", Check.of("society;" + FULL + FULL + FULL + FULL).misfits(), 7);
    Check.due("four", Check.of("society;person 0 0 0;person 0 0 0;person 0 0 0;person 0 0 0;fits : many < 4;").misfits(), 15);
    Check.due("three ahead of four", Check.of("society;person 0 0 0;person 0 0 0;person 0 0 0;person 1 0 0;person 1 0 0;person 1 0 0;fits : many < 4 and ink < 3;").misfits(), 56);
    Check.due("the two don't fit", Check.of("society;" + FULL + FULL + FULL + "fits : many = 1;").misfits(), 0);
    // Of three cells, two with three and one with none: the two with three don't fit, whoever they are.
    String law = "fits : many < 3 and ink < 6;";
    Check.due("0 and 1 don't", Check.of("society;person 7 0 0;person 7 0 0;person 0 0 0;" + law).misfits(), 0);
    Check.due("0 and 2 don't", Check.of("society;person 7 0 0;person 0 0 0;person 7 0 0;" + law).misfits(), 0);
    Check.due("1 and 2 don't", Check.of("society;person 0 0 0;person 7 0 0;person 7 0 0;" + law).misfits(), 0);
    Check.due("all twos do", Check.of("society;person 6 0 0;person 0 0 0;person 7 0 0;" + law).misfits(), 7);
    Check.due("all fit", Check.of("society;person 0 0 0;person 0 0 0;person 0 0 0;person 0 0 0;").misfits(), 0);
    Check.due("five are none", Check.of("society;person 0 0 0;person 0 0 0;person 0 0 0;person 0 0 0;person 0 0 0;").misfits(), 0);
  }

  private static void changes() {
    RingSign x = Check.of("society;" + FULL + FULL + "person 0 0 0;fits : cross = 0;");
    Check.due("one cell", x.change(0, 1, 0), 1);
    // Without cell 8 it has 255, the least; without cell 0 it would have 510.
    Check.due("the least sign", x.change(0, 1, 1), 255);
    Check.due("none", x.change(0, 2, 0), 0);
    Check.due("the sign as it is", x.change(0, 2, 1), 511);
    Check.due("both one", x.change(1, 1, 0), -2);
    Check.due("no such one", x.change(3, 0, 0), -2);
    Check.due("no such one", x.change(0, -1, 0), -2);
    Check.due("what", x.change(0, 1, 2), -2);
    Check.due("what", x.change(0, 1, -1), -2);
    Check.due("nothing changed", x.person(0, 0), 511);
    RingSign y = Check.of("society;person 5 0 1;person 0 0 0;fits : ink = 5;");
    // It has cells 0, 2 and 8; two more, the least: 1 and 3.
    Check.due("cells", y.change(0, 1, 0), 2);
    Check.due("sign", y.change(0, 1, 1), 1 + 2 + 4 + 8 + 256);
    RingSign z = Check.of("society;person 5 0 1;person 0 0 0;fits : ink = 2 and many = 2;");
    Check.due("a cell less", z.change(0, 1, 0), 1);
    Check.due("the least sign", z.change(0, 1, 1), 5);
    Check.due("the other one's", z.change(1, 0, 0), -1);
    RingSign all = Check.of("society;person 0 0 0;person 0 0 0;fits : ink = 9;");
    Check.due("all cells", all.change(0, 1, 0), 9);
    Check.due("all cells", all.change(0, 1, 1), 511);
    RingSign none = Check.of("society;person 0 0 0;person 0 0 0;fits : ink = 10;");
    Check.due("none does", none.change(0, 1, 0), -1);
    Check.due("none does", none.change(0, 1, 1), -1);
    Check.due("fits is enough, whether they would or not", Check.of("society;person 0 0 0;person 0 0 0;likes : 0;").change(0, 1, 0), 0);
  }
}
