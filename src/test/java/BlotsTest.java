/** Promises 30 to 32: whose sign it was by what is seen of a blot. */
public final class BlotsTest {
  private static final String TEXT = "society;person 4 0 0 odds 2;person 6 0 0 odds 4;person 2 0 1 odds 6;person 0 0 0 odds 0;";

  public static void main(String[] args) {
    blots();
    likely();
    look();
    Check.end();
  }

  private static void codes(String name, RingSign x, int tray, int want) {
    Check.due("blot: " + name, x.blot(tray), want);
    Check.due("likely: " + name, x.likely(tray, 0, 0), want);
    Check.due("look: " + name, x.look(tray), want);
  }

  private static void blots() {
    RingSign x = Check.of(TEXT);
    codes("no tray", x, 4, -2);
    codes("no tray", x, -1, -2);
    codes("missing", x, 0, -6);
    Check.tray(x, 0, 0);
    codes("no numbers", x, 0, -4);
    x.numbers(0, 0, 19);
    codes("19 numbers", x, 0, -4);
    Check.tray(x, 0, 0, 1, 18);
    codes("18", x, 0, -3);
    Check.tray(x, 0, 0, 1, -1);
    codes("-1", x, 0, -3);
    Check.tray(x, 0, 3, 1L << 40);
    codes("a great one", x, 0, -3);
    Check.tray(x, 0, 3, Long.MIN_VALUE);
    codes("a small one", x, 0, -3);
    Check.tray(x, 0, 0, 1);
    Check.due("ink in cell 0", x.blot(0), 3);
    Check.tray(x, 0, 0, 0);
    Check.due("none in cell 0", x.blot(0), 12);
    Check.tray(x, 0, 0, 17);
    Check.due("ink in cell 8", x.blot(0), 4);
    Check.tray(x, 0, 0, 1, 3);
    Check.due("ink in cells 0 and 1", x.blot(0), 2);
    Check.tray(x, 0, 0, 3, 3, 3);
    Check.due("told again", x.blot(0), 6);
    Check.tray(x, 0, 0, 0, 1);
    Check.due("both can't be", x.blot(0), 0);
    Check.tray(x, 1, 2, 0, 2, 4, 6, 8, 10, 12, 14, 16, 0, 2, 4, 6, 8, 10, 12, 14, 16);
    Check.due("18 numbers", x.blot(1), 8);
    x.stroke(3, 4);
    Check.due("after a stroke", x.blot(1), 0);
    RingSign none = new RingSign();
    Check.tray(none, 0, 0, 1);
    Check.due("no people", none.blot(0), 0);
    Check.due("no people", none.look(0), -1);
    Check.due("no people", none.likely(0, 0, 0), -2);
  }

  private static void likely() {
    RingSign x = Check.of(TEXT);
    Check.due("no such one, ahead of missing", x.likely(0, 4, 0), -2);
    Check.due("what, ahead of missing", x.likely(0, 0, 2), -2);
    Check.due("what", x.likely(0, 0, -1), -2);
    Check.tray(x, 0, 0, 12);
    // Nobody has ink in cell 6: 2, 4, 6 and 0 of 12.
    int[][] due = {{1, 6}, {1, 3}, {1, 2}, {0, 1}};
    for (int p = 0; p < 4; p++)
      for (int what = 0; what < 2; what++) Check.due("likely " + p, x.likely(0, p, what), due[p][what]);
    Check.tray(x, 0, 0, 1);
    Check.due("2 of 6", x.likely(0, 0, 0), 1);
    Check.due("2 of 6", x.likely(0, 0, 1), 3);
    Check.due("none of these", x.likely(0, 2, 0), 0);
    Check.due("none of these", x.likely(0, 2, 1), 1);
    Check.tray(x, 0, 0, 0, 2);
    Check.due("odds of all these are 0", x.likely(0, 3, 0), -1);
    Check.due("odds of all these are 0", x.likely(0, 0, 1), -1);
    Check.tray(x, 0, 0, 0, 1);
    Check.due("there are none", x.likely(0, 0, 1), -1);
    RingSign one = Check.of("society;person 4 0 0;person 0 0 0;");
    Check.tray(one, 0, 0, 1);
    Check.due("1 of 1", one.likely(0, 0, 0), 1);
    Check.due("1 of 1", one.likely(0, 0, 1), 1);
    Check.due("0 of 1", one.likely(0, 1, 0), 0);
  }

  private static void look() {
    RingSign x = Check.of(TEXT);
    Check.tray(x, 0, 0, 12);
    // Ink in cell 0: 2 + 4 to 6; in cell 1: 4 + 6 to 2; in cell 8: 6 to 6: the first of like ones.
    Check.due("look", x.look(0), 0);
    Check.tray(x, 0, 0, 3);
    // 4 and 6 are left: cell 0 tells them apart, and cell 8.
    Check.due("look", x.look(0), 0);
    Check.tray(x, 0, 0, 1);
    Check.due("cell 1 tells 0 from 1", x.look(0), 1);
    Check.tray(x, 0, 0, 17);
    Check.due("but one is left", x.look(0), 0);
    Check.tray(x, 0, 0, 0, 1);
    Check.due("there are none", x.look(0), -1);
    Check.tray(x, 0, 0, 0, 2);
    Check.due("one of no odds", x.look(0), 0);
    RingSign y = Check.of("society;person 4 0 1 odds 1;person 0 0 1 odds 8;person 0 1 0 odds 9;");
    Check.tray(y, 0, 0, 8);
    // Cell 0 parts 1 from 17, cell 5 parts 9 from 9.
    Check.due("the greatest", y.look(0), 5);
  }
}
